set_option maxHeartbeats 4000000 in
theorem c_X6_performs {Y : gY} {l : Launch} {S : SS} (hz : 0 ≤ S 73 0 ∧ S 73 0 ≤ 120) (ht : ∀ c : Int, 0 ≤ c → c < 120 → 0 ≤ S 74 c ∧ S 74 c ≤ 255) (p : Int) (hp : 1 ≤ p ∧ p < S 73 0) (hk : kO (S 74 p) (S 74) (S 73 0) (p + 1) = 1) {i : Nat} (hi : i < 18) (hw : wf (vw S i)) : gM Y l mX6_performs S [.ref (yA Y 73), .int (iI p), .ref (yA Y (4 * i))] (pV (.int (iI (1 - kB (S 74 p) (S 74) (S 73 0) (p + 1) (vw S i)))) (fun S' => vw S' i = kG (S 74 p) (S 74) (S 73 0) (p + 1) (vw S i) ∧ fr S S' i)) := by
  refine gM_of (by decide) (Nat.le_of_ble_eq_true rfl) ?_
  intro X hXl B E
  obtain ⟨⟨hn0, hn16⟩, ⟨hb0, hb1⟩, ⟨hm0, hm1⟩, ⟨hs0, hs1⟩, ⟨hc0, hc1⟩, hct, hkw, how, hun⟩ := wfS hw
  have esg : sgF (S 74) (S 73 0) p = S 74 p := if_pos hp.2
  show gW Y X S 0 [(0, .ref (yA Y 73)), (1, .int (iI p)), (2, .ref (yA Y (4 * i)))] []
  refine g_aload_n (q := 1) B dX6_performs_0 rfl 2 rfl ?_
  refine g_ifnonnull (q := 6) B dX6_performs_1 (by decide) ?_
  refine g_aload_n (q := 7) B dX6_performs_6 rfl 0 rfl ?_
  refine g_iload_n (q := 8) B dX6_performs_7 rfl 1 rfl ?_
  refine g_callV (n := 73) (ty := tyX6) (q := 11) (As := [.int (iI p)]) (st := []) B dX6_performs_8 rfl (c_X6_signAt (l := xL X) (S := S) hz ht p (by omega) (by omega)) eX6_signAt w292 (by decide) rfl rfl cls4 rfl rfl (Nat.le_of_ble_eq_true rfl) (g_kE ?_)
  have := sgF_in (t := S 74) (z := S 73 0) (i := p) ht (by omega) (by omega)
  rcases (show (sgF (S 74) (S 73 0) p) = 98 ∨ (sgF (S 74) (S 73 0) p) = 99 ∨ (sgF (S 74) (S 73 0) p) = 100 ∨ (sgF (S 74) (S 73 0) p) = 103 ∨ (sgF (S 74) (S 73 0) p) = 106 ∨ (sgF (S 74) (S 73 0) p) = 109 ∨ (sgF (S 74) (S 73 0) p) = 115 ∨ (sgF (S 74) (S 73 0) p) = 116 ∨ ((sgF (S 74) (S 73 0) p) ≠ 98 ∧ (sgF (S 74) (S 73 0) p) ≠ 99 ∧ (sgF (S 74) (S 73 0) p) ≠ 100 ∧ (sgF (S 74) (S 73 0) p) ≠ 103 ∧ (sgF (S 74) (S 73 0) p) ≠ 106 ∧ (sgF (S 74) (S 73 0) p) ≠ 109 ∧ (sgF (S 74) (S 73 0) p) ≠ 115 ∧ (sgF (S 74) (S 73 0) p) ≠ 116) by omega) with cq11 | cq11 | cq11 | cq11 | cq11 | cq11 | cq11 | cq11 | cq11
  · refine g_tsIn (q := 122) B 98 dX6_performs_11 cq11 ⟨by decide, by decide, by decide, by decide⟩ rfl (by decide) ?_
    refine g_aload_n (q := 123) B dX6_performs_122 rfl 2 rfl ?_
    refine g_aload_n (q := 124) B dX6_performs_123 rfl 0 rfl ?_
    refine g_iload_n (q := 125) B dX6_performs_124 rfl 1 rfl ?_
    refine g_iconst (q := 126) B dX6_performs_125 rfl ?_
    refine g_iadd (q := 127) B dX6_performs_126 rfl ?_
    refine g_callV (n := 73) (ty := tyX6) (q := 130) (As := [.int (iI (p + 1))]) (st := [.ref (yA Y (4 * i))]) B dX6_performs_127 rfl (c_X6_numberAt (l := xL X) (S := S) hz ht (p + 1) (by omega) (by omega)) eX6_numberAt w399 (by decide) rfl rfl cls4 rfl rfl (Nat.le_of_ble_eq_true rfl) (g_kE ?_)
    have := sgF_in (t := S 74) (z := S 73 0) (i := p + 1) ht (by omega) (by omega)
    have := sgF_in (t := S 74) (z := S 73 0) (i := (p + 1) + 1) ht (by omega) (by omega)
    refine g_callV (n := (4 * i)) (ty := tyX2) (q := 133) (As := [.int (iI (10 * (sgF (S 74) (S 73 0) (p + 1) - 48) + (sgF (S 74) (S 73 0) ((p + 1) + 1) - 48)))]) (st := []) B dX6_performs_130 rfl (c_X2_breakAhead (l := xL X) (S := S) hi hw (10 * (sgF (S 74) (S 73 0) (p + 1) - 48) + (sgF (S 74) (S 73 0) ((p + 1) + 1) - 48)) ⟨by omega, by omega⟩) eX2_breakAhead w403 (by decide) rfl (cw_N hi (S ((4 * i)))) cls2 rfl rfl (Nat.le_of_ble_eq_true rfl) (g_kV (fun Sy hSy => ?_))
    obtain ⟨hvSy, hfSy⟩ := hSy
    refine g_zret B E dX6_performs_133 rfl (nz_b _) ?_
    have hc : S 74 p = 98 := by omega
    rw [hc] at hk
    have hv := yes_1.mp (show yes (fgV (S 74) (S 73 0) (p + 1) 2 0 15) = 1 from hk)
    have h8 := fg2_ok hv
    have hin := fgV_in (S 74) (S 73 0) (p + 1) 2 (lo := 0) (hi := 15) (by decide)
    have eA : 10 * (sgF (S 74) (S 73 0) (p + 1) - 48) + (sgF (S 74) (S 73 0) (p + 1 + 1) - 48) = fgV (S 74) (S 73 0) (p + 1) 2 0 15 := by rw [h8.2.1, sgF, sgF, if_pos (by omega), if_pos (by omega)]
    rw [eA] at hvSy ⊢
    have eG : kG (S 74 p) (S 74) (S 73 0) (p + 1) (vw S i) = brkG (vw S i) (fgV (S 74) (S 73 0) (p + 1) 2 0 15) := by rw [hc]; rfl
    have eB : kB (S 74 p) (S 74) (S 73 0) (p + 1) (vw S i) = if fgV (S 74) (S 73 0) (p + 1) 2 0 15 < S (4 * i) 0 then 0 else 1 := by rw [hc]; rfl
    refine ⟨?_, by rw [eG, hvSy], hfSy⟩
    rw [eB]
    exact congrArg (fun z => some (Value.int z)) (bI_eq (fun h => by rw [if_pos (by omega)]; rfl) (fun h => by rw [if_neg (fun z => h (by omega))]; rfl))
  · refine g_tsIn (q := 134) B 99 dX6_performs_11 cq11 ⟨by decide, by decide, by decide, by decide⟩ rfl (by decide) ?_
    refine g_aload_n (q := 135) B dX6_performs_134 rfl 2 rfl ?_
    refine g_aload_n (q := 136) B dX6_performs_135 rfl 0 rfl ?_
    refine g_iload_n (q := 137) B dX6_performs_136 rfl 1 rfl ?_
    refine g_iconst (q := 138) B dX6_performs_137 rfl ?_
    refine g_iadd (q := 139) B dX6_performs_138 rfl ?_
    refine g_callV (n := 73) (ty := tyX6) (q := 142) (As := [.int (iI (p + 1))]) (st := [.ref (yA Y (4 * i))]) B dX6_performs_139 rfl (c_X6_numberAt (l := xL X) (S := S) hz ht (p + 1) (by omega) (by omega)) eX6_numberAt w399 (by decide) rfl rfl cls4 rfl rfl (Nat.le_of_ble_eq_true rfl) (g_kE ?_)
    have := sgF_in (t := S 74) (z := S 73 0) (i := p + 1) ht (by omega) (by omega)
    have := sgF_in (t := S 74) (z := S 73 0) (i := (p + 1) + 1) ht (by omega) (by omega)
    refine g_iconst (q := 143) B dX6_performs_142 rfl ?_
    refine g_callV (n := (4 * i)) (ty := tyX2) (q := 146) (As := [.int (iI (10 * (sgF (S 74) (S 73 0) (p + 1) - 48) + (sgF (S 74) (S 73 0) ((p + 1) + 1) - 48))), .int (iI 1)]) (st := []) B dX6_performs_143 rfl (c_X2_setCut (l := xL X) (S := S) hi hw (10 * (sgF (S 74) (S 73 0) (p + 1) - 48) + (sgF (S 74) (S 73 0) ((p + 1) + 1) - 48)) 1 ⟨by omega, by omega⟩ (by omega)) eX2_setCut w411 (by decide) rfl (cw_N hi (S ((4 * i)))) cls2 rfl rfl (Nat.le_of_ble_eq_true rfl) (g_kV (fun Sy hSy => ?_))
    obtain ⟨hvSy, hfSy⟩ := hSy
    refine g_zret B E dX6_performs_146 rfl (nz_b _) ?_
    have hc : S 74 p = 99 := by omega
    rw [hc] at hk
    have hv := yes_1.mp (show yes (fgV (S 74) (S 73 0) (p + 1) 2 1 15) = 1 from hk)
    have h8 := fg2_ok hv
    have hin := fgV_in (S 74) (S 73 0) (p + 1) 2 (lo := 1) (hi := 15) (by decide)
    have eA : 10 * (sgF (S 74) (S 73 0) (p + 1) - 48) + (sgF (S 74) (S 73 0) (p + 1 + 1) - 48) = fgV (S 74) (S 73 0) (p + 1) 2 1 15 := by rw [h8.2.1, sgF, sgF, if_pos (by omega), if_pos (by omega)]
    rw [eA] at hvSy ⊢
    have eG : kG (S 74 p) (S 74) (S 73 0) (p + 1) (vw S i) = cutG (vw S i) (fgV (S 74) (S 73 0) (p + 1) 2 1 15) 1 := by rw [hc]; rfl
    have eB : kB (S 74 p) (S 74) (S 73 0) (p + 1) (vw S i) = if fgV (S 74) (S 73 0) (p + 1) 2 1 15 < S (4 * i) 0 then 0 else 1 := by rw [hc]; rfl
    refine ⟨?_, by rw [eG, hvSy], hfSy⟩
    rw [eB]
    exact congrArg (fun z => some (Value.int z)) (bI_eq (fun h => by rw [if_pos (by omega)]; rfl) (fun h => by rw [if_neg (fun z => h (by omega))]; rfl))
  · refine g_tsIn (q := 194) B 100 dX6_performs_11 cq11 ⟨by decide, by decide, by decide, by decide⟩ rfl (by decide) ?_
    refine g_aload_n (q := 195) B dX6_performs_194 rfl 2 rfl ?_
    refine g_aload_n (q := 196) B dX6_performs_195 rfl 0 rfl ?_
    refine g_iload_n (q := 197) B dX6_performs_196 rfl 1 rfl ?_
    refine g_iconst (q := 198) B dX6_performs_197 rfl ?_
    refine g_iadd (q := 199) B dX6_performs_198 rfl ?_
    refine g_callV (n := 73) (ty := tyX6) (q := 202) (As := [.int (iI (p + 1))]) (st := [.ref (yA Y (4 * i))]) B dX6_performs_199 rfl (c_X6_digitAt (l := xL X) (S := S) hz ht (p + 1) (by omega) (by omega)) eX6_digitAt w381 (by decide) rfl rfl cls4 rfl rfl (Nat.le_of_ble_eq_true rfl) (g_kE ?_)
    have := sgF_in (t := S 74) (z := S 73 0) (i := p + 1) ht (by omega) (by omega)
    refine g_callV (n := (4 * i)) (ty := tyX2) (q := 205) (As := [.int (iI (sgF (S 74) (S 73 0) (p + 1) - 48))]) (st := []) B dX6_performs_202 rfl (c_X2_dealRuns (l := xL X) (S := S) hi hw (sgF (S 74) (S 73 0) (p + 1) - 48) ⟨by omega, by omega⟩) eX2_dealRuns w471 (by decide) rfl (cw_N hi (S ((4 * i)))) cls2 rfl rfl (Nat.le_of_ble_eq_true rfl) (g_kV (fun Sy hSy => ?_))
    obtain ⟨hvSy, hfSy⟩ := hSy
    refine g_zret B E dX6_performs_205 rfl (nz_b _) ?_
    have hc : S 74 p = 100 := by omega
    rw [hc] at hk
    have hv := yes_1.mp (show yes (fgV (S 74) (S 73 0) (p + 1) 1 0 1) = 1 from hk)
    have h8 := fg1_ok hv
    have hin := fgV_in (S 74) (S 73 0) (p + 1) 1 (lo := 0) (hi := 1) (by decide)
    have eA : sgF (S 74) (S 73 0) (p + 1) - 48 = fgV (S 74) (S 73 0) (p + 1) 1 0 1 := by rw [h8.2.1, sgF, if_pos (by omega)]
    rw [eA] at hvSy ⊢
    have eG : kG (S 74 p) (S 74) (S 73 0) (p + 1) (vw S i) = dealG (vw S i) (fgV (S 74) (S 73 0) (p + 1) 1 0 1) := by rw [hc]; rfl
    have eB : kB (S 74 p) (S 74) (S 73 0) (p + 1) (vw S i) = 0 := by rw [hc]; rfl
    refine ⟨?_, by rw [eG, hvSy], hfSy⟩
    rw [eB]
    exact congrArg (fun z => some (Value.int z)) (bI_eq (fun _ => rfl) (fun h => absurd (by omega) h))
  · refine g_tsIn (q := 160) B 103 dX6_performs_11 cq11 ⟨by decide, by decide, by decide, by decide⟩ rfl (by decide) ?_
    refine g_aload_n (q := 161) B dX6_performs_160 rfl 2 rfl ?_
    refine g_aload_n (q := 162) B dX6_performs_161 rfl 0 rfl ?_
    refine g_iload_n (q := 163) B dX6_performs_162 rfl 1 rfl ?_
    refine g_iconst (q := 164) B dX6_performs_163 rfl ?_
    refine g_iadd (q := 165) B dX6_performs_164 rfl ?_
    refine g_callV (n := 73) (ty := tyX6) (q := 168) (As := [.int (iI (p + 1))]) (st := [.ref (yA Y (4 * i))]) B dX6_performs_165 rfl (c_X6_numberAt (l := xL X) (S := S) hz ht (p + 1) (by omega) (by omega)) eX6_numberAt w399 (by decide) rfl rfl cls4 rfl rfl (Nat.le_of_ble_eq_true rfl) (g_kE ?_)
    have := sgF_in (t := S 74) (z := S 73 0) (i := p + 1) ht (by omega) (by omega)
    have := sgF_in (t := S 74) (z := S 73 0) (i := (p + 1) + 1) ht (by omega) (by omega)
    refine g_aload_n (q := 169) B dX6_performs_168 rfl 0 rfl ?_
    refine g_iload_n (q := 170) B dX6_performs_169 rfl 1 rfl ?_
    refine g_iconst (q := 171) B dX6_performs_170 rfl ?_
    refine g_iadd (q := 172) B dX6_performs_171 rfl ?_
    refine g_callV (n := 73) (ty := tyX6) (q := 175) (As := [.int (iI (p + 3))]) (st := [.int (iI (10 * (sgF (S 74) (S 73 0) (p + 1) - 48) + (sgF (S 74) (S 73 0) ((p + 1) + 1) - 48))), .ref (yA Y (4 * i))]) B dX6_performs_172 rfl (c_X6_digitAt (l := xL X) (S := S) hz ht (p + 3) (by omega) (by omega)) eX6_digitAt w381 (by decide) rfl rfl cls4 rfl rfl (Nat.le_of_ble_eq_true rfl) (g_kE ?_)
    have := sgF_in (t := S 74) (z := S 73 0) (i := p + 3) ht (by omega) (by omega)
    refine g_callSN (q := 178) (As := [.int (iI (sgF (S 74) (S 73 0) (p + 3) - 48))]) (st := [.int (iI (10 * (sgF (S 74) (S 73 0) (p + 1) - 48) + (sgF (S 74) (S 73 0) ((p + 1) + 1) - 48))), .ref (yA Y (4 * i))]) B dX6_performs_175 rfl (c_X7_ownerFor (l := xL X) (S := S) (sgF (S 74) (S 73 0) (p + 3) - 48) ⟨by omega, by omega⟩) eX7_ownerFor w455 (by decide) rfl rfl (Nat.le_of_ble_eq_true rfl) (g_kE ?_)
    refine g_callV (n := (4 * i)) (ty := tyX2) (q := 181) (As := [.int (iI (10 * (sgF (S 74) (S 73 0) (p + 1) - 48) + (sgF (S 74) (S 73 0) ((p + 1) + 1) - 48))), .int (iI (if (sgF (S 74) (S 73 0) (p + 3) - 48) = 2 then -1 else (sgF (S 74) (S 73 0) (p + 3) - 48)))]) (st := []) B dX6_performs_178 rfl (c_X2_giveRun (l := xL X) (S := S) hi (wf.q hw) (10 * (sgF (S 74) (S 73 0) (p + 1) - 48) + (sgF (S 74) (S 73 0) ((p + 1) + 1) - 48)) (if (sgF (S 74) (S 73 0) (p + 3) - 48) = 2 then -1 else (sgF (S 74) (S 73 0) (p + 3) - 48)) ⟨by omega, by omega⟩ ⟨by split <;> omega, by split <;> omega⟩) eX2_giveRun w458 (by decide) rfl (cw_N hi (S ((4 * i)))) cls2 rfl rfl (Nat.le_of_ble_eq_true rfl) (g_kV (fun Sy hSy => ?_))
    obtain ⟨hvSy, hfSy⟩ := hSy
    refine g_zret B E dX6_performs_181 rfl (nz_b _) ?_
    have hc : S 74 p = 103 := by omega
    rw [hc] at hk
    have hk2 : (if fgV (S 74) (S 73 0) (p + 1) 2 0 15 = -1 then 0 else yes (fgV (S 74) (S 73 0) (fgP (S 74) (S 73 0) (p + 1) 2 0 15) 1 0 2)) = 1 := hk
    have hv : fgV (S 74) (S 73 0) (p + 1) 2 0 15 ≠ -1 := fun z => by rw [if_pos z] at hk2; exact absurd hk2 (by decide)
    rw [if_neg hv] at hk2
    have h8 := fg2_ok hv
    have hv2 := yes_1.mp hk2
    have h9 := fg1_ok hv2
    have hin := fgV_in (S 74) (S 73 0) (p + 1) 2 (lo := 0) (hi := 15) (by decide)
    have hin2 := fgV_in (S 74) (S 73 0) (fgP (S 74) (S 73 0) (p + 1) 2 0 15) 1 (lo := 0) (hi := 2) (by decide)
    have eA : 10 * (sgF (S 74) (S 73 0) (p + 1) - 48) + (sgF (S 74) (S 73 0) (p + 1 + 1) - 48) = fgV (S 74) (S 73 0) (p + 1) 2 0 15 := by rw [h8.2.1, sgF, sgF, if_pos (by omega), if_pos (by omega)]
    have eD : sgF (S 74) (S 73 0) (p + 3) - 48 = fgV (S 74) (S 73 0) (fgP (S 74) (S 73 0) (p + 1) 2 0 15) 1 0 2 := by rw [h9.2.1, h8.2.2, show p + 1 + 2 = p + 3 by omega, sgF, if_pos (by have := h9.1; rw [h8.2.2] at this; omega)]
    rw [eA, eD] at hvSy ⊢
    have eG : kG (S 74 p) (S 74) (S 73 0) (p + 1) (vw S i) = giveG (vw S i) (fgV (S 74) (S 73 0) (p + 1) 2 0 15) (enO (fgV (S 74) (S 73 0) (fgP (S 74) (S 73 0) (p + 1) 2 0 15) 1 0 2)) := by rw [hc]; rfl
    have eB : kB (S 74 p) (S 74) (S 73 0) (p + 1) (vw S i) = if fgV (S 74) (S 73 0) (p + 1) 2 0 15 < runsF (vw S i) then 0 else 1 := by rw [hc]; rfl
    have eo : (if fgV (S 74) (S 73 0) (fgP (S 74) (S 73 0) (p + 1) 2 0 15) 1 0 2 = 2 then -1 else fgV (S 74) (S 73 0) (fgP (S 74) (S 73 0) (p + 1) 2 0 15) 1 0 2) = -1 ∨ (if fgV (S 74) (S 73 0) (fgP (S 74) (S 73 0) (p + 1) 2 0 15) 1 0 2 = 2 then -1 else fgV (S 74) (S 73 0) (fgP (S 74) (S 73 0) (p + 1) 2 0 15) 1 0 2) = 0 ∨ (if fgV (S 74) (S 73 0) (fgP (S 74) (S 73 0) (p + 1) 2 0 15) 1 0 2 = 2 then -1 else fgV (S 74) (S 73 0) (fgP (S 74) (S 73 0) (p + 1) 2 0 15) 1 0 2) = 1 := by split <;> omega
    refine ⟨?_, by rw [eG, hvSy]; rfl, hfSy⟩
    rw [eB]
    exact congrArg (fun z => some (Value.int z)) (bI_eq (fun h => by rw [if_pos (by omega)]; rfl) (fun h => by rw [if_neg (fun z => h (by omega))]; rfl))
  · refine g_tsIn (q := 100) B 106 dX6_performs_11 cq11 ⟨by decide, by decide, by decide, by decide⟩ rfl (by decide) ?_
    refine g_aload_n (q := 101) B dX6_performs_100 rfl 2 rfl ?_
    refine g_aload_n (q := 102) B dX6_performs_101 rfl 0 rfl ?_
    refine g_iload_n (q := 103) B dX6_performs_102 rfl 1 rfl ?_
    refine g_iconst (q := 104) B dX6_performs_103 rfl ?_
    refine g_iadd (q := 105) B dX6_performs_104 rfl ?_
    refine g_callV (n := 73) (ty := tyX6) (q := 108) (As := [.int (iI (p + 1))]) (st := [.ref (yA Y (4 * i))]) B dX6_performs_105 rfl (c_X6_signAt (l := xL X) (S := S) hz ht (p + 1) (by omega) (by omega)) eX6_signAt w292 (by decide) rfl rfl cls4 rfl rfl (Nat.le_of_ble_eq_true rfl) (g_kE ?_)
    have := sgF_in (t := S 74) (z := S 73 0) (i := p + 1) ht (by omega) (by omega)
    refine g_bipush (q := 110) B dX6_performs_108 rfl (by decide) ?_
    refine g_isub (q := 111) B dX6_performs_110 rfl ?_
    refine g_aload_n (q := 112) B dX6_performs_111 rfl 0 rfl ?_
    refine g_iload_n (q := 113) B dX6_performs_112 rfl 1 rfl ?_
    refine g_iconst (q := 114) B dX6_performs_113 rfl ?_
    refine g_iadd (q := 115) B dX6_performs_114 rfl ?_
    refine g_callV (n := 73) (ty := tyX6) (q := 118) (As := [.int (iI (p + 2))]) (st := [.int (iI ((sgF (S 74) (S 73 0) (p + 1)) - 97)), .ref (yA Y (4 * i))]) B dX6_performs_115 rfl (c_X6_digitAt (l := xL X) (S := S) hz ht (p + 2) (by omega) (by omega)) eX6_digitAt w381 (by decide) rfl rfl cls4 rfl rfl (Nat.le_of_ble_eq_true rfl) (g_kE ?_)
    have := sgF_in (t := S 74) (z := S 73 0) (i := p + 2) ht (by omega) (by omega)
    refine g_callV (n := (4 * i)) (ty := tyX2) (q := 121) (As := [.int (iI ((sgF (S 74) (S 73 0) (p + 1)) - 97)), .int (iI (sgF (S 74) (S 73 0) (p + 2) - 48))]) (st := []) B dX6_performs_118 rfl (c_X2_addJewel (l := xL X) (S := S) hi hw ((sgF (S 74) (S 73 0) (p + 1)) - 97) (sgF (S 74) (S 73 0) (p + 2) - 48) ⟨by omega, by omega⟩ ⟨by omega, by omega⟩) eX2_addJewel w385 (by decide) rfl (cw_N hi (S ((4 * i)))) cls2 rfl rfl (Nat.le_of_ble_eq_true rfl) (g_kV (fun Sy hSy => ?_))
    obtain ⟨hvSy, hfSy⟩ := hSy
    refine g_zret B E dX6_performs_121 rfl (nz_b _) ?_
    have hc : S 74 p = 106 := by omega
    rw [hc] at hk
    have hk1 : rjO (S 74) (S 73 0) (p + 1) = 1 := hk
    have ekd : kdF (S 74) (S 73 0) (p + 1) = if p + 1 < S 73 0 then S 74 (p + 1) - 97 else -1 := rfl
    have hkr : 0 ≤ kdF (S 74) (S 73 0) (p + 1) ∧ kdF (S 74) (S 73 0) (p + 1) ≤ 3 := by
      unfold rjO at hk1
      split at hk1
      · assumption
      · exact absurd hk1 (by decide)
    have hk2 : yes (fgV (S 74) (S 73 0) (p + 1 + 1) 1 1 9) = 1 := by
      rw [rjO, if_pos hkr] at hk1
      exact hk1
    have hv := yes_1.mp hk2
    have h8 := fg1_ok hv
    have hin := fgV_in (S 74) (S 73 0) (p + 1 + 1) 1 (lo := 1) (hi := 9) (by decide)
    have eA : sgF (S 74) (S 73 0) (p + 1) - 97 = kdF (S 74) (S 73 0) (p + 1) := by rw [ekd, sgF, if_pos (by omega), if_pos (by omega)]
    have eD : sgF (S 74) (S 73 0) (p + 2) - 48 = fgV (S 74) (S 73 0) (p + 1 + 1) 1 1 9 := by rw [h8.2.1, sgF, show p + 1 + 1 = p + 2 by omega, if_pos (by omega)]
    rw [eA, eD] at hvSy ⊢
    have eG : kG (S 74 p) (S 74) (S 73 0) (p + 1) (vw S i) = addG (vw S i) (kdF (S 74) (S 73 0) (p + 1)) (fgV (S 74) (S 73 0) (p + 1 + 1) 1 1 9) := by rw [hc]; rfl
    have eB : kB (S 74 p) (S 74) (S 73 0) (p + 1) (vw S i) = if S (4 * i) 0 < 16 then 0 else 1 := by rw [hc]; rfl
    refine ⟨?_, by rw [eG, hvSy], hfSy⟩
    rw [eB]
    exact congrArg (fun z => some (Value.int z)) (bI_eq (fun h => by rw [if_pos (by omega)]; rfl) (fun h => by rw [if_neg (fun z => h (by omega))]; rfl))
  · refine g_tsIn (q := 147) B 109 dX6_performs_11 cq11 ⟨by decide, by decide, by decide, by decide⟩ rfl (by decide) ?_
    refine g_aload_n (q := 148) B dX6_performs_147 rfl 2 rfl ?_
    refine g_aload_n (q := 149) B dX6_performs_148 rfl 0 rfl ?_
    refine g_iload_n (q := 150) B dX6_performs_149 rfl 1 rfl ?_
    refine g_iconst (q := 151) B dX6_performs_150 rfl ?_
    refine g_iadd (q := 152) B dX6_performs_151 rfl ?_
    refine g_callV (n := 73) (ty := tyX6) (q := 155) (As := [.int (iI (p + 1))]) (st := [.ref (yA Y (4 * i))]) B dX6_performs_152 rfl (c_X6_numberAt (l := xL X) (S := S) hz ht (p + 1) (by omega) (by omega)) eX6_numberAt w399 (by decide) rfl rfl cls4 rfl rfl (Nat.le_of_ble_eq_true rfl) (g_kE ?_)
    have := sgF_in (t := S 74) (z := S 73 0) (i := p + 1) ht (by omega) (by omega)
    have := sgF_in (t := S 74) (z := S 73 0) (i := (p + 1) + 1) ht (by omega) (by omega)
    refine g_iconst (q := 156) B dX6_performs_155 rfl ?_
    refine g_callV (n := (4 * i)) (ty := tyX2) (q := 159) (As := [.int (iI (10 * (sgF (S 74) (S 73 0) (p + 1) - 48) + (sgF (S 74) (S 73 0) ((p + 1) + 1) - 48))), .int (iI 0)]) (st := []) B dX6_performs_156 rfl (c_X2_setCut (l := xL X) (S := S) hi hw (10 * (sgF (S 74) (S 73 0) (p + 1) - 48) + (sgF (S 74) (S 73 0) ((p + 1) + 1) - 48)) 0 ⟨by omega, by omega⟩ (by omega)) eX2_setCut w411 (by decide) rfl (cw_N hi (S ((4 * i)))) cls2 rfl rfl (Nat.le_of_ble_eq_true rfl) (g_kV (fun Sy hSy => ?_))
    obtain ⟨hvSy, hfSy⟩ := hSy
    refine g_zret B E dX6_performs_159 rfl (nz_b _) ?_
    have hc : S 74 p = 109 := by omega
    rw [hc] at hk
    have hv := yes_1.mp (show yes (fgV (S 74) (S 73 0) (p + 1) 2 1 15) = 1 from hk)
    have h8 := fg2_ok hv
    have hin := fgV_in (S 74) (S 73 0) (p + 1) 2 (lo := 1) (hi := 15) (by decide)
    have eA : 10 * (sgF (S 74) (S 73 0) (p + 1) - 48) + (sgF (S 74) (S 73 0) (p + 1 + 1) - 48) = fgV (S 74) (S 73 0) (p + 1) 2 1 15 := by rw [h8.2.1, sgF, sgF, if_pos (by omega), if_pos (by omega)]
    rw [eA] at hvSy ⊢
    have eG : kG (S 74 p) (S 74) (S 73 0) (p + 1) (vw S i) = cutG (vw S i) (fgV (S 74) (S 73 0) (p + 1) 2 1 15) 0 := by rw [hc]; rfl
    have eB : kB (S 74 p) (S 74) (S 73 0) (p + 1) (vw S i) = if fgV (S 74) (S 73 0) (p + 1) 2 1 15 < S (4 * i) 0 then 0 else 1 := by rw [hc]; rfl
    refine ⟨?_, by rw [eG, hvSy], hfSy⟩
    rw [eB]
    exact congrArg (fun z => some (Value.int z)) (bI_eq (fun h => by rw [if_pos (by omega)]; rfl) (fun h => by rw [if_neg (fun z => h (by omega))]; rfl))
  · refine g_tsIn (q := 206) B 115 dX6_performs_11 cq11 ⟨by decide, by decide, by decide, by decide⟩ rfl (by decide) ?_
    refine g_aload_n (q := 207) B dX6_performs_206 rfl 2 rfl ?_
    refine g_aload_n (q := 208) B dX6_performs_207 rfl 0 rfl ?_
    refine g_iload_n (q := 209) B dX6_performs_208 rfl 1 rfl ?_
    refine g_iconst (q := 210) B dX6_performs_209 rfl ?_
    refine g_iadd (q := 211) B dX6_performs_210 rfl ?_
    refine g_callV (n := 73) (ty := tyX6) (q := 214) (As := [.int (iI (p + 1))]) (st := [.ref (yA Y (4 * i))]) B dX6_performs_211 rfl (c_X6_digitAt (l := xL X) (S := S) hz ht (p + 1) (by omega) (by omega)) eX6_digitAt w381 (by decide) rfl rfl cls4 rfl rfl (Nat.le_of_ble_eq_true rfl) (g_kE ?_)
    have := sgF_in (t := S 74) (z := S 73 0) (i := p + 1) ht (by omega) (by omega)
    refine g_callV (n := (4 * i)) (ty := tyX2) (q := 217) (As := [.int (iI (sgF (S 74) (S 73 0) (p + 1) - 48))]) (st := []) B dX6_performs_214 rfl (c_X2_chooseSetting (l := xL X) (S := S) hi  (sgF (S 74) (S 73 0) (p + 1) - 48) ⟨by omega, by omega⟩) eX2_chooseSetting w476 (by decide) rfl (cw_N hi (S ((4 * i)))) cls2 rfl rfl (Nat.le_of_ble_eq_true rfl) (g_kV (fun Sy hSy => ?_))
    obtain ⟨hvSy, hfSy⟩ := hSy
    refine g_zret B E dX6_performs_217 rfl (nz_b _) ?_
    have hc : S 74 p = 115 := by omega
    rw [hc] at hk
    have hv := yes_1.mp (show yes (fgV (S 74) (S 73 0) (p + 1) 1 0 1) = 1 from hk)
    have h8 := fg1_ok hv
    have hin := fgV_in (S 74) (S 73 0) (p + 1) 1 (lo := 0) (hi := 1) (by decide)
    have eA : sgF (S 74) (S 73 0) (p + 1) - 48 = fgV (S 74) (S 73 0) (p + 1) 1 0 1 := by rw [h8.2.1, sgF, if_pos (by omega)]
    rw [eA] at hvSy ⊢
    have eG : kG (S 74 p) (S 74) (S 73 0) (p + 1) (vw S i) = setG (vw S i) (fgV (S 74) (S 73 0) (p + 1) 1 0 1) := by rw [hc]; rfl
    have eB : kB (S 74 p) (S 74) (S 73 0) (p + 1) (vw S i) = 0 := by rw [hc]; rfl
    refine ⟨?_, by rw [eG, hvSy], hfSy⟩
    rw [eB]
    exact congrArg (fun z => some (Value.int z)) (bI_eq (fun _ => rfl) (fun h => absurd (by omega) h))
  · refine g_tsIn (q := 182) B 116 dX6_performs_11 cq11 ⟨by decide, by decide, by decide, by decide⟩ rfl (by decide) ?_
    refine g_aload_n (q := 183) B dX6_performs_182 rfl 2 rfl ?_
    refine g_aload_n (q := 184) B dX6_performs_183 rfl 0 rfl ?_
    refine g_iload_n (q := 185) B dX6_performs_184 rfl 1 rfl ?_
    refine g_iconst (q := 186) B dX6_performs_185 rfl ?_
    refine g_iadd (q := 187) B dX6_performs_186 rfl ?_
    refine g_callV (n := 73) (ty := tyX6) (q := 190) (As := [.int (iI (p + 1))]) (st := [.ref (yA Y (4 * i))]) B dX6_performs_187 rfl (c_X6_numberAt (l := xL X) (S := S) hz ht (p + 1) (by omega) (by omega)) eX6_numberAt w399 (by decide) rfl rfl cls4 rfl rfl (Nat.le_of_ble_eq_true rfl) (g_kE ?_)
    have := sgF_in (t := S 74) (z := S 73 0) (i := p + 1) ht (by omega) (by omega)
    have := sgF_in (t := S 74) (z := S 73 0) (i := (p + 1) + 1) ht (by omega) (by omega)
    refine g_callV (n := (4 * i)) (ty := tyX2) (q := 193) (As := [.int (iI (10 * (sgF (S 74) (S 73 0) (p + 1) - 48) + (sgF (S 74) (S 73 0) ((p + 1) + 1) - 48)))]) (st := []) B dX6_performs_190 rfl (c_X2_takeRun (l := xL X) (S := S) hi hw (10 * (sgF (S 74) (S 73 0) (p + 1) - 48) + (sgF (S 74) (S 73 0) ((p + 1) + 1) - 48)) ⟨by omega, by omega⟩) eX2_takeRun w459 (by decide) rfl (cw_N hi (S ((4 * i)))) cls2 rfl rfl (Nat.le_of_ble_eq_true rfl) (g_kV (fun Sy hSy => ?_))
    obtain ⟨hvSy, hfSy⟩ := hSy
    refine g_zret B E dX6_performs_193 rfl (nz_b _) ?_
    have hc : S 74 p = 116 := by omega
    rw [hc] at hk
    have hv := yes_1.mp (show yes (fgV (S 74) (S 73 0) (p + 1) 2 0 15) = 1 from hk)
    have h8 := fg2_ok hv
    have hin := fgV_in (S 74) (S 73 0) (p + 1) 2 (lo := 0) (hi := 15) (by decide)
    have eA : 10 * (sgF (S 74) (S 73 0) (p + 1) - 48) + (sgF (S 74) (S 73 0) (p + 1 + 1) - 48) = fgV (S 74) (S 73 0) (p + 1) 2 0 15 := by rw [h8.2.1, sgF, sgF, if_pos (by omega), if_pos (by omega)]
    rw [eA] at hvSy ⊢
    have eG : kG (S 74 p) (S 74) (S 73 0) (p + 1) (vw S i) = takeG (vw S i) (fgV (S 74) (S 73 0) (p + 1) 2 0 15) := by rw [hc]; rfl
    have eB : kB (S 74 p) (S 74) (S 73 0) (p + 1) (vw S i) = if fgV (S 74) (S 73 0) (p + 1) 2 0 15 < runsF (vw S i) ∧ whyF (vw S i) (fgV (S 74) (S 73 0) (p + 1) 2 0 15) = 0 then 0 else 1 := by rw [hc]; rfl
    refine ⟨?_, by rw [eG, hvSy], hfSy⟩
    rw [eB]
    exact congrArg (fun z => some (Value.int z)) (bI_eq (fun h => by rw [if_pos (by omega)]; rfl) (fun h => by rw [if_neg (fun z => h (by omega))]; rfl))
  · by_cases ho : (sgF (S 74) (S 73 0) p) < 98 ∨ 116 < (sgF (S 74) (S 73 0) p)
    · refine g_tsOut (q := 218) B dX6_performs_11 ho ⟨by omega, by omega⟩ (by decide) ?_
      refine g_aload_n (q := 219) B dX6_performs_218 rfl 2 rfl ?_
      refine g_callV (n := (4 * i)) (ty := tyX2) (q := 222) (As := []) (st := []) B dX6_performs_219 rfl (c_X2_reverseRing (l := xL X) (S := S) hi hw  ) eX2_reverseRing w483 (by decide) rfl (cw_N hi (S ((4 * i)))) cls2 rfl rfl (Nat.le_of_ble_eq_true rfl) (g_k0 (fun Sy hSy => ?_))
      obtain ⟨hvSy, hfSy⟩ := hSy
      refine g_iconst (q := 223) B dX6_performs_222 rfl ?_
      refine g_zret B E dX6_performs_223 rfl (by decide) ?_
      have hc : S 74 p = 114 := by
        by_cases hh : S 74 p = 114
        · exact hh
        · have := (kO_no (c := S 74 p) (S 74) (S 73 0) (p + 1) (by omega)).1; omega
      rw [hc] at hk
      have eG : kG (S 74 p) (S 74) (S 73 0) (p + 1) (vw S i) = revF (vw S i) := by rw [hc]; rfl
      have eB : kB (S 74 p) (S 74) (S 73 0) (p + 1) (vw S i) = 0 := by rw [hc]; rfl
      exact ⟨by rw [eB]; rfl, by rw [eG]; exact hvSy, hfSy⟩
    · rcases (show (sgF (S 74) (S 73 0) p) = 101 ∨ (sgF (S 74) (S 73 0) p) = 102 ∨ (sgF (S 74) (S 73 0) p) = 104 ∨ (sgF (S 74) (S 73 0) p) = 105 ∨ (sgF (S 74) (S 73 0) p) = 107 ∨ (sgF (S 74) (S 73 0) p) = 108 ∨ (sgF (S 74) (S 73 0) p) = 110 ∨ (sgF (S 74) (S 73 0) p) = 111 ∨ (sgF (S 74) (S 73 0) p) = 112 ∨ (sgF (S 74) (S 73 0) p) = 113 ∨ (sgF (S 74) (S 73 0) p) = 114 by omega) with ho | ho | ho | ho | ho | ho | ho | ho | ho | ho | ho
      · refine g_tsIn (q := 218) B 101 dX6_performs_11 ho ⟨by decide, by decide, by decide, by decide⟩ rfl (by decide) ?_
        refine g_aload_n (q := 219) B dX6_performs_218 rfl 2 rfl ?_
        refine g_callV (n := (4 * i)) (ty := tyX2) (q := 222) (As := []) (st := []) B dX6_performs_219 rfl (c_X2_reverseRing (l := xL X) (S := S) hi hw  ) eX2_reverseRing w483 (by decide) rfl (cw_N hi (S ((4 * i)))) cls2 rfl rfl (Nat.le_of_ble_eq_true rfl) (g_k0 (fun Sy hSy => ?_))
        obtain ⟨hvSy, hfSy⟩ := hSy
        refine g_iconst (q := 223) B dX6_performs_222 rfl ?_
        refine g_zret B E dX6_performs_223 rfl (by decide) ?_
        have hc : S 74 p = 114 := by
          by_cases hh : S 74 p = 114
          · exact hh
          · have := (kO_no (c := S 74 p) (S 74) (S 73 0) (p + 1) (by omega)).1; omega
        rw [hc] at hk
        have eG : kG (S 74 p) (S 74) (S 73 0) (p + 1) (vw S i) = revF (vw S i) := by rw [hc]; rfl
        have eB : kB (S 74 p) (S 74) (S 73 0) (p + 1) (vw S i) = 0 := by rw [hc]; rfl
        exact ⟨by rw [eB]; rfl, by rw [eG]; exact hvSy, hfSy⟩
      · refine g_tsIn (q := 218) B 102 dX6_performs_11 ho ⟨by decide, by decide, by decide, by decide⟩ rfl (by decide) ?_
        refine g_aload_n (q := 219) B dX6_performs_218 rfl 2 rfl ?_
        refine g_callV (n := (4 * i)) (ty := tyX2) (q := 222) (As := []) (st := []) B dX6_performs_219 rfl (c_X2_reverseRing (l := xL X) (S := S) hi hw  ) eX2_reverseRing w483 (by decide) rfl (cw_N hi (S ((4 * i)))) cls2 rfl rfl (Nat.le_of_ble_eq_true rfl) (g_k0 (fun Sy hSy => ?_))
        obtain ⟨hvSy, hfSy⟩ := hSy
        refine g_iconst (q := 223) B dX6_performs_222 rfl ?_
        refine g_zret B E dX6_performs_223 rfl (by decide) ?_
        have hc : S 74 p = 114 := by
          by_cases hh : S 74 p = 114
          · exact hh
          · have := (kO_no (c := S 74 p) (S 74) (S 73 0) (p + 1) (by omega)).1; omega
        rw [hc] at hk
        have eG : kG (S 74 p) (S 74) (S 73 0) (p + 1) (vw S i) = revF (vw S i) := by rw [hc]; rfl
        have eB : kB (S 74 p) (S 74) (S 73 0) (p + 1) (vw S i) = 0 := by rw [hc]; rfl
        exact ⟨by rw [eB]; rfl, by rw [eG]; exact hvSy, hfSy⟩
      · refine g_tsIn (q := 218) B 104 dX6_performs_11 ho ⟨by decide, by decide, by decide, by decide⟩ rfl (by decide) ?_
        refine g_aload_n (q := 219) B dX6_performs_218 rfl 2 rfl ?_
        refine g_callV (n := (4 * i)) (ty := tyX2) (q := 222) (As := []) (st := []) B dX6_performs_219 rfl (c_X2_reverseRing (l := xL X) (S := S) hi hw  ) eX2_reverseRing w483 (by decide) rfl (cw_N hi (S ((4 * i)))) cls2 rfl rfl (Nat.le_of_ble_eq_true rfl) (g_k0 (fun Sy hSy => ?_))
        obtain ⟨hvSy, hfSy⟩ := hSy
        refine g_iconst (q := 223) B dX6_performs_222 rfl ?_
        refine g_zret B E dX6_performs_223 rfl (by decide) ?_
        have hc : S 74 p = 114 := by
          by_cases hh : S 74 p = 114
          · exact hh
          · have := (kO_no (c := S 74 p) (S 74) (S 73 0) (p + 1) (by omega)).1; omega
        rw [hc] at hk
        have eG : kG (S 74 p) (S 74) (S 73 0) (p + 1) (vw S i) = revF (vw S i) := by rw [hc]; rfl
        have eB : kB (S 74 p) (S 74) (S 73 0) (p + 1) (vw S i) = 0 := by rw [hc]; rfl
        exact ⟨by rw [eB]; rfl, by rw [eG]; exact hvSy, hfSy⟩
      · refine g_tsIn (q := 218) B 105 dX6_performs_11 ho ⟨by decide, by decide, by decide, by decide⟩ rfl (by decide) ?_
        refine g_aload_n (q := 219) B dX6_performs_218 rfl 2 rfl ?_
        refine g_callV (n := (4 * i)) (ty := tyX2) (q := 222) (As := []) (st := []) B dX6_performs_219 rfl (c_X2_reverseRing (l := xL X) (S := S) hi hw  ) eX2_reverseRing w483 (by decide) rfl (cw_N hi (S ((4 * i)))) cls2 rfl rfl (Nat.le_of_ble_eq_true rfl) (g_k0 (fun Sy hSy => ?_))
        obtain ⟨hvSy, hfSy⟩ := hSy
        refine g_iconst (q := 223) B dX6_performs_222 rfl ?_
        refine g_zret B E dX6_performs_223 rfl (by decide) ?_
        have hc : S 74 p = 114 := by
          by_cases hh : S 74 p = 114
          · exact hh
          · have := (kO_no (c := S 74 p) (S 74) (S 73 0) (p + 1) (by omega)).1; omega
        rw [hc] at hk
        have eG : kG (S 74 p) (S 74) (S 73 0) (p + 1) (vw S i) = revF (vw S i) := by rw [hc]; rfl
        have eB : kB (S 74 p) (S 74) (S 73 0) (p + 1) (vw S i) = 0 := by rw [hc]; rfl
        exact ⟨by rw [eB]; rfl, by rw [eG]; exact hvSy, hfSy⟩
      · refine g_tsIn (q := 218) B 107 dX6_performs_11 ho ⟨by decide, by decide, by decide, by decide⟩ rfl (by decide) ?_
        refine g_aload_n (q := 219) B dX6_performs_218 rfl 2 rfl ?_
        refine g_callV (n := (4 * i)) (ty := tyX2) (q := 222) (As := []) (st := []) B dX6_performs_219 rfl (c_X2_reverseRing (l := xL X) (S := S) hi hw  ) eX2_reverseRing w483 (by decide) rfl (cw_N hi (S ((4 * i)))) cls2 rfl rfl (Nat.le_of_ble_eq_true rfl) (g_k0 (fun Sy hSy => ?_))
        obtain ⟨hvSy, hfSy⟩ := hSy
        refine g_iconst (q := 223) B dX6_performs_222 rfl ?_
        refine g_zret B E dX6_performs_223 rfl (by decide) ?_
        have hc : S 74 p = 114 := by
          by_cases hh : S 74 p = 114
          · exact hh
          · have := (kO_no (c := S 74 p) (S 74) (S 73 0) (p + 1) (by omega)).1; omega
        rw [hc] at hk
        have eG : kG (S 74 p) (S 74) (S 73 0) (p + 1) (vw S i) = revF (vw S i) := by rw [hc]; rfl
        have eB : kB (S 74 p) (S 74) (S 73 0) (p + 1) (vw S i) = 0 := by rw [hc]; rfl
        exact ⟨by rw [eB]; rfl, by rw [eG]; exact hvSy, hfSy⟩
      · refine g_tsIn (q := 218) B 108 dX6_performs_11 ho ⟨by decide, by decide, by decide, by decide⟩ rfl (by decide) ?_
        refine g_aload_n (q := 219) B dX6_performs_218 rfl 2 rfl ?_
        refine g_callV (n := (4 * i)) (ty := tyX2) (q := 222) (As := []) (st := []) B dX6_performs_219 rfl (c_X2_reverseRing (l := xL X) (S := S) hi hw  ) eX2_reverseRing w483 (by decide) rfl (cw_N hi (S ((4 * i)))) cls2 rfl rfl (Nat.le_of_ble_eq_true rfl) (g_k0 (fun Sy hSy => ?_))
        obtain ⟨hvSy, hfSy⟩ := hSy
        refine g_iconst (q := 223) B dX6_performs_222 rfl ?_
        refine g_zret B E dX6_performs_223 rfl (by decide) ?_
        have hc : S 74 p = 114 := by
          by_cases hh : S 74 p = 114
          · exact hh
          · have := (kO_no (c := S 74 p) (S 74) (S 73 0) (p + 1) (by omega)).1; omega
        rw [hc] at hk
        have eG : kG (S 74 p) (S 74) (S 73 0) (p + 1) (vw S i) = revF (vw S i) := by rw [hc]; rfl
        have eB : kB (S 74 p) (S 74) (S 73 0) (p + 1) (vw S i) = 0 := by rw [hc]; rfl
        exact ⟨by rw [eB]; rfl, by rw [eG]; exact hvSy, hfSy⟩
      · refine g_tsIn (q := 218) B 110 dX6_performs_11 ho ⟨by decide, by decide, by decide, by decide⟩ rfl (by decide) ?_
        refine g_aload_n (q := 219) B dX6_performs_218 rfl 2 rfl ?_
        refine g_callV (n := (4 * i)) (ty := tyX2) (q := 222) (As := []) (st := []) B dX6_performs_219 rfl (c_X2_reverseRing (l := xL X) (S := S) hi hw  ) eX2_reverseRing w483 (by decide) rfl (cw_N hi (S ((4 * i)))) cls2 rfl rfl (Nat.le_of_ble_eq_true rfl) (g_k0 (fun Sy hSy => ?_))
        obtain ⟨hvSy, hfSy⟩ := hSy
        refine g_iconst (q := 223) B dX6_performs_222 rfl ?_
        refine g_zret B E dX6_performs_223 rfl (by decide) ?_
        have hc : S 74 p = 114 := by
          by_cases hh : S 74 p = 114
          · exact hh
          · have := (kO_no (c := S 74 p) (S 74) (S 73 0) (p + 1) (by omega)).1; omega
        rw [hc] at hk
        have eG : kG (S 74 p) (S 74) (S 73 0) (p + 1) (vw S i) = revF (vw S i) := by rw [hc]; rfl
        have eB : kB (S 74 p) (S 74) (S 73 0) (p + 1) (vw S i) = 0 := by rw [hc]; rfl
        exact ⟨by rw [eB]; rfl, by rw [eG]; exact hvSy, hfSy⟩
      · refine g_tsIn (q := 218) B 111 dX6_performs_11 ho ⟨by decide, by decide, by decide, by decide⟩ rfl (by decide) ?_
        refine g_aload_n (q := 219) B dX6_performs_218 rfl 2 rfl ?_
        refine g_callV (n := (4 * i)) (ty := tyX2) (q := 222) (As := []) (st := []) B dX6_performs_219 rfl (c_X2_reverseRing (l := xL X) (S := S) hi hw  ) eX2_reverseRing w483 (by decide) rfl (cw_N hi (S ((4 * i)))) cls2 rfl rfl (Nat.le_of_ble_eq_true rfl) (g_k0 (fun Sy hSy => ?_))
        obtain ⟨hvSy, hfSy⟩ := hSy
        refine g_iconst (q := 223) B dX6_performs_222 rfl ?_
        refine g_zret B E dX6_performs_223 rfl (by decide) ?_
        have hc : S 74 p = 114 := by
          by_cases hh : S 74 p = 114
          · exact hh
          · have := (kO_no (c := S 74 p) (S 74) (S 73 0) (p + 1) (by omega)).1; omega
        rw [hc] at hk
        have eG : kG (S 74 p) (S 74) (S 73 0) (p + 1) (vw S i) = revF (vw S i) := by rw [hc]; rfl
        have eB : kB (S 74 p) (S 74) (S 73 0) (p + 1) (vw S i) = 0 := by rw [hc]; rfl
        exact ⟨by rw [eB]; rfl, by rw [eG]; exact hvSy, hfSy⟩
      · refine g_tsIn (q := 218) B 112 dX6_performs_11 ho ⟨by decide, by decide, by decide, by decide⟩ rfl (by decide) ?_
        refine g_aload_n (q := 219) B dX6_performs_218 rfl 2 rfl ?_
        refine g_callV (n := (4 * i)) (ty := tyX2) (q := 222) (As := []) (st := []) B dX6_performs_219 rfl (c_X2_reverseRing (l := xL X) (S := S) hi hw  ) eX2_reverseRing w483 (by decide) rfl (cw_N hi (S ((4 * i)))) cls2 rfl rfl (Nat.le_of_ble_eq_true rfl) (g_k0 (fun Sy hSy => ?_))
        obtain ⟨hvSy, hfSy⟩ := hSy
        refine g_iconst (q := 223) B dX6_performs_222 rfl ?_
        refine g_zret B E dX6_performs_223 rfl (by decide) ?_
        have hc : S 74 p = 114 := by
          by_cases hh : S 74 p = 114
          · exact hh
          · have := (kO_no (c := S 74 p) (S 74) (S 73 0) (p + 1) (by omega)).1; omega
        rw [hc] at hk
        have eG : kG (S 74 p) (S 74) (S 73 0) (p + 1) (vw S i) = revF (vw S i) := by rw [hc]; rfl
        have eB : kB (S 74 p) (S 74) (S 73 0) (p + 1) (vw S i) = 0 := by rw [hc]; rfl
        exact ⟨by rw [eB]; rfl, by rw [eG]; exact hvSy, hfSy⟩
      · refine g_tsIn (q := 218) B 113 dX6_performs_11 ho ⟨by decide, by decide, by decide, by decide⟩ rfl (by decide) ?_
        refine g_aload_n (q := 219) B dX6_performs_218 rfl 2 rfl ?_
        refine g_callV (n := (4 * i)) (ty := tyX2) (q := 222) (As := []) (st := []) B dX6_performs_219 rfl (c_X2_reverseRing (l := xL X) (S := S) hi hw  ) eX2_reverseRing w483 (by decide) rfl (cw_N hi (S ((4 * i)))) cls2 rfl rfl (Nat.le_of_ble_eq_true rfl) (g_k0 (fun Sy hSy => ?_))
        obtain ⟨hvSy, hfSy⟩ := hSy
        refine g_iconst (q := 223) B dX6_performs_222 rfl ?_
        refine g_zret B E dX6_performs_223 rfl (by decide) ?_
        have hc : S 74 p = 114 := by
          by_cases hh : S 74 p = 114
          · exact hh
          · have := (kO_no (c := S 74 p) (S 74) (S 73 0) (p + 1) (by omega)).1; omega
        rw [hc] at hk
        have eG : kG (S 74 p) (S 74) (S 73 0) (p + 1) (vw S i) = revF (vw S i) := by rw [hc]; rfl
        have eB : kB (S 74 p) (S 74) (S 73 0) (p + 1) (vw S i) = 0 := by rw [hc]; rfl
        exact ⟨by rw [eB]; rfl, by rw [eG]; exact hvSy, hfSy⟩
      · refine g_tsIn (q := 218) B 114 dX6_performs_11 ho ⟨by decide, by decide, by decide, by decide⟩ rfl (by decide) ?_
        refine g_aload_n (q := 219) B dX6_performs_218 rfl 2 rfl ?_
        refine g_callV (n := (4 * i)) (ty := tyX2) (q := 222) (As := []) (st := []) B dX6_performs_219 rfl (c_X2_reverseRing (l := xL X) (S := S) hi hw  ) eX2_reverseRing w483 (by decide) rfl (cw_N hi (S ((4 * i)))) cls2 rfl rfl (Nat.le_of_ble_eq_true rfl) (g_k0 (fun Sy hSy => ?_))
        obtain ⟨hvSy, hfSy⟩ := hSy
        refine g_iconst (q := 223) B dX6_performs_222 rfl ?_
        refine g_zret B E dX6_performs_223 rfl (by decide) ?_
        have hc : S 74 p = 114 := by
          by_cases hh : S 74 p = 114
          · exact hh
          · have := (kO_no (c := S 74 p) (S 74) (S 73 0) (p + 1) (by omega)).1; omega
        rw [hc] at hk
        have eG : kG (S 74 p) (S 74) (S 73 0) (p + 1) (vw S i) = revF (vw S i) := by rw [hc]; rfl
        have eB : kB (S 74 p) (S 74) (S 73 0) (p + 1) (vw S i) = 0 := by rw [hc]; rfl
        exact ⟨by rw [eB]; rfl, by rw [eG]; exact hvSy, hfSy⟩
set_option maxHeartbeats 4000000 in
theorem c_X6_performOn {Y : gY} {l : Launch} {S : SS} (hz : 0 ≤ S 73 0 ∧ S 73 0 ≤ 120) (ht : ∀ c : Int, 0 ≤ c → c < 120 → 0 ≤ S 74 c ∧ S 74 c ≤ 255) {i : Nat} (hi : i < 18) (hw : wf (vw S i)) (he : rtE (S 74) (S 73 0) 120 1 = -1) : gM Y l mX6_performOn S [.ref (yA Y 73), .ref (yA Y (4 * i))] (pV (.int (iI (rtB (S 74) (S 73 0) 120 1 (vw S i)))) (fun S' => vw S' i = rtG (S 74) (S 73 0) 120 1 (vw S i) ∧ fr S S' i)) := by
  refine gM_of (by decide) (Nat.le_of_ble_eq_true rfl) ?_
  intro X hXl B E
  show gW Y X S 0 [(0, .ref (yA Y 73)), (1, .ref (yA Y (4 * i)))] []
  have lp4 : ∀ (fu : Nat) (nq : Nat) (px lx : Int) (Sx : SS) , 1 ≤ px ∧ px ≤ 121 → 0 ≤ lx ∧ lx ≤ px → S 73 0 - px ≤ (nq : Int) → rtE (S 74) (S 73 0) nq px = -1 → rtG (S 74) (S 73 0) nq px (vw Sx i) = rtG (S 74) (S 73 0) 120 1 (vw S i) → lx + rtB (S 74) (S 73 0) nq px (vw Sx i) = rtB (S 74) (S 73 0) 120 1 (vw S i) → fr S Sx i → wf (vw Sx i) → nq < fu → gW Y X Sx 4 [(0, .ref (yA Y 73)), (1, .ref (yA Y (4 * i))), (2, .int (iI lx)), (3, .int (iI px))] [] := by
    intro fu
    induction fu with
    | zero =>
      intro nq px lx Sx hp1 hlx hnq hE hG hB hf hwx hfu
      exact absurd hfu (Nat.not_lt_zero _)
    | succ fu ih =>
      intro nq px lx Sx hp1 hlx hnq hE hG hB hf hwx hfu
      have e73 : Sx 73 = S 73 := hf 73 (by omega)
      have e74 : Sx 74 = S 74 := hf 74 (by omega)
      have e730 : Sx 73 0 = S 73 0 := congrFun e73 0
      have htx : ∀ c : Int, 0 ≤ c → c < 120 → 0 ≤ Sx 74 c ∧ Sx 74 c ≤ 255 := fun c a b => by rw [e74]; exact ht c a b
      have hzx : 0 ≤ Sx 73 0 ∧ Sx 73 0 ≤ 120 := by omega
      refine g_iload_n (q := 5) B dX6_performOn_4 rfl 3 rfl ?_
      refine g_aload_n (q := 6) B dX6_performOn_5 rfl 0 rfl ?_
      refine g_get (n := 73) (ty := tyX6) (q := 9) (v := .int (iI (Sx 73 0))) B dX6_performOn_6 rfl rfl rfl cls4 1 (by decide) w51 rfl ?_
      refine g_icmp_ge (t := 55) (q := 12) B dX6_performOn_9 (by decide) rfl ⟨by omega, by omega⟩ ⟨by omega, by omega⟩ (fun cq9 => ?_) (fun cq9 => ?_)
      · refine g_iload_n (q := 56) B dX6_performOn_55 rfl 2 rfl ?_
        refine g_iret B E dX6_performOn_56 ?_
        exact ⟨by rw [← hB, rtB_end _ (by omega), Int.add_zero], by rw [← hG, rtG_end _ (by omega)], hf⟩
      · refine g_aload_n (q := 13) B dX6_performOn_12 rfl 0 rfl ?_
        refine g_iload_n (q := 14) B dX6_performOn_13 rfl 3 rfl ?_
        refine g_callV (n := 73) (ty := tyX6) (q := 17) (As := [.int (iI px)]) (st := []) B dX6_performOn_14 rfl (c_X6_signAt (l := xL X) (S := Sx) hzx htx px (by omega) (by omega)) eX6_signAt w292 (by decide) rfl rfl cls4 rfl rfl (Nat.le_of_ble_eq_true rfl) (g_kE ?_)
        have := sgF_in (t := Sx 74) (z := Sx 73 0) (i := px) htx (by omega) (by omega)
        have esg : sgF (Sx 74) (Sx 73 0) px = Sx 74 px := if_pos (by omega)
        have hko : kO (S 74 px) (S 74) (S 73 0) (px + 1) = 1 := by
          have hE2 := hE
          obtain ⟨iw, hiw⟩ : ∃ iw, nq = iw + 1 := ⟨nq - 1, by omega⟩
          rw [hiw, rtE, if_pos (by omega)] at hE2
          have h3 := kO_in (S 74 px) (S 74) (S 73 0) (px + 1)
          have h4 := kP_in (c := S 74 px) (t := S 74) (z := S 73 0) (q := px + 1) (by omega)
          split at hE2
          · assumption
          · omega
        have hfn := (kP_len2 hko).1
        have hfi := fmI_in (S 74 px)
        have htl := txL_in (fmI (S 74 px)).toNat
        have hko2 : kO (Sx 74 px) (Sx 74) (Sx 73 0) (px + 1) = 1 := by rw [e73, e74]; exact hko
        have hkpz := kP_in (c := S 74 px) (t := S 74) (z := S 73 0) (q := px + 1) (by omega)
        have hkl2 := kP_len2 hko
        have hkbx : 0 ≤ kB (Sx 74 px) (Sx 74) (Sx 73 0) (px + 1) (vw Sx i) ∧ kB (Sx 74 px) (Sx 74) (Sx 73 0) (px + 1) (vw Sx i) ≤ 1 := by unfold kB; (repeat' split) <;> exact ⟨by decide, by decide⟩
        refine g_callS (q := 20) (As := [.int (iI (sgF (Sx 74) (Sx 73 0) px))]) (st := []) B dX6_performOn_17 rfl (c_X6_formOf (l := xL X) (S := Sx) (sgF (Sx 74) (Sx 73 0) px) (by omega)) eX6_formOf w307 (by decide) rfl rfl (Nat.le_of_ble_eq_true rfl) (g_kE ?_)
        have hfm := fmI_in (sgF (Sx 74) (Sx 73 0) px)
        refine g_eqT (st' := [.ref (yK Y (fmI (S 74 px)).toNat)]) (by rw [show sgF (Sx 74) (Sx 73 0) px = S 74 px by rw [esg, e74], fmR_r hfn]) ?_
        refine g_astore (q := 22) B dX6_performOn_20 rfl (by decide) (L' := [(4, .ref (yK Y ((fmI (S 74 px)).toNat))), (0, .ref (yA Y 73)), (1, .ref (yA Y (4 * i))), (2, .int (iI lx)), (3, .int (iI px))]) rfl ?_
        refine g_aload (q := 24) B dX6_performOn_22 rfl 0 rfl ?_
        refine g_ifnonnull (q := 29) B dX6_performOn_24 (by decide) ?_
        refine g_aload_n (q := 30) B dX6_performOn_29 rfl 1 rfl ?_
        refine g_iload_n (q := 31) B dX6_performOn_30 rfl 4 rfl ?_
        refine g_aload_n (q := 32) B dX6_performOn_31 rfl 2 rfl ?_
        refine g_callV (n := 73) (ty := tyX6) (q := 35) (As := [.int (iI px), .ref (yA Y (4 * i))]) (st := []) B dX6_performOn_32 rfl (c_X6_performs (l := xL X) (S := Sx) hzx htx px (by omega) hko2 hi hwx) eX6_performs w377 (by decide) rfl rfl cls4 rfl rfl (Nat.le_of_ble_eq_true rfl) (g_kV (fun Sy hSy => ?_))
        obtain ⟨hvSy, hfSy⟩ := hSy
        refine g_if_ne (t := 41) (q := 38) B dX6_performOn_35 (by decide) rfl ⟨by omega, by omega⟩ (fun cq35 => ?_) (fun cq35 => ?_)
        · refine g_iload_n (q := 42) B dX6_performOn_41 rfl 4 rfl ?_
          refine g_aload (q := 44) B dX6_performOn_42 rfl 0 rfl ?_
          refine g_callT ((fmI (S 74 px)).toNat) (by omega) (q := 47) (As := []) (st := [.int (iI px)]) B dX6_performOn_44 rfl (c_J0_length_8abf5 (l := xL X) (S := Sy) ((fmI (S 74 px)).toNat) (by omega) ) eJ0_length_8abf5 w297 (by decide) rfl rfl (Nat.le_of_ble_eq_true rfl) (g_kE ?_)
          refine g_iadd (q := 48) B dX6_performOn_47 rfl ?_
          refine g_istore_n (q := 49) B dX6_performOn_48 rfl (by decide) (L' := [(3, .int (iI (px + (((txL ((fmI (S 74 px)).toNat) : Nat) : Int))))), (4, .ref (yK Y ((fmI (S 74 px)).toNat))), (0, .ref (yA Y 73)), (1, .ref (yA Y (4 * i))), (2, .int (iI lx))]) rfl ?_
          refine g_iinc (n := 0) (q := 52) B dX6_performOn_49 rfl rfl (by decide) (L' := [(3, .int (iI (px + (((txL ((fmI (S 74 px)).toNat) : Nat) : Int)) + 1))), (4, .ref (yK Y ((fmI (S 74 px)).toNat))), (0, .ref (yA Y 73)), (1, .ref (yA Y (4 * i))), (2, .int (iI lx))]) rfl ?_
          refine g_goto (q := 4) B dX6_performOn_52 (by decide) ?_
          refine g_sub [2, 3, 4, 0] rfl ?_
          obtain ⟨ib, rfl⟩ : ∃ ib, nq = ib + 1 := ⟨nq - 1, by omega⟩
          rw [rtE, if_pos (by omega), if_pos hko] at hE
          rw [rtG, if_pos (by omega)] at hG
          rw [rtB, if_pos (by omega)] at hB
          have hkl := kP_len2 hko
          have hkb : 0 ≤ kB (S 74 px) (S 74) (S 73 0) (px + 1) (vw Sx i) ∧ kB (S 74 px) (S 74) (S 73 0) (px + 1) (vw Sx i) ≤ 1 := by unfold kB; (repeat' split) <;> exact ⟨by decide, by decide⟩
          have epx : px + (txL (fmI (S 74 px)).toNat : Nat) + 1 = kP (S 74 px) (S 74) (S 73 0) (px + 1) := by omega
          exact ih ib _ _ _ (by first | assumption | omega) (by omega) (by omega) (by rw [epx]; exact hE) (by rw [epx, hvSy, e73, e74]; exact hG) (by rw [epx, hvSy, e73, e74, ← hB]; rw [e73, e74] at cq35; omega) (by exact hf.tr hfSy) (by rw [hvSy]; exact wf_kG hwx _ _ _ _) (by omega)
        · refine g_iinc (n := 3) (q := 41) B dX6_performOn_38 rfl rfl (by decide) (L' := [(2, .int (iI (lx + 1))), (4, .ref (yK Y ((fmI (S 74 px)).toNat))), (0, .ref (yA Y 73)), (1, .ref (yA Y (4 * i))), (3, .int (iI px))]) rfl ?_
          refine g_iload_n (q := 42) B dX6_performOn_41 rfl 4 rfl ?_
          refine g_aload (q := 44) B dX6_performOn_42 rfl 1 rfl ?_
          refine g_callT ((fmI (S 74 px)).toNat) (by omega) (q := 47) (As := []) (st := [.int (iI px)]) B dX6_performOn_44 rfl (c_J0_length_8abf5 (l := xL X) (S := Sy) ((fmI (S 74 px)).toNat) (by omega) ) eJ0_length_8abf5 w297 (by decide) rfl rfl (Nat.le_of_ble_eq_true rfl) (g_kE ?_)
          refine g_iadd (q := 48) B dX6_performOn_47 rfl ?_
          refine g_istore_n (q := 49) B dX6_performOn_48 rfl (by decide) (L' := [(3, .int (iI (px + (((txL ((fmI (S 74 px)).toNat) : Nat) : Int))))), (2, .int (iI (lx + 1))), (4, .ref (yK Y ((fmI (S 74 px)).toNat))), (0, .ref (yA Y 73)), (1, .ref (yA Y (4 * i)))]) rfl ?_
          refine g_iinc (n := 0) (q := 52) B dX6_performOn_49 rfl rfl (by decide) (L' := [(3, .int (iI (px + (((txL ((fmI (S 74 px)).toNat) : Nat) : Int)) + 1))), (2, .int (iI (lx + 1))), (4, .ref (yK Y ((fmI (S 74 px)).toNat))), (0, .ref (yA Y 73)), (1, .ref (yA Y (4 * i)))]) rfl ?_
          refine g_goto (q := 4) B dX6_performOn_52 (by decide) ?_
          refine g_sub [3, 4, 1, 0] rfl ?_
          obtain ⟨ib, rfl⟩ : ∃ ib, nq = ib + 1 := ⟨nq - 1, by omega⟩
          rw [rtE, if_pos (by omega), if_pos hko] at hE
          rw [rtG, if_pos (by omega)] at hG
          rw [rtB, if_pos (by omega)] at hB
          have hkl := kP_len2 hko
          have hkb : 0 ≤ kB (S 74 px) (S 74) (S 73 0) (px + 1) (vw Sx i) ∧ kB (S 74 px) (S 74) (S 73 0) (px + 1) (vw Sx i) ≤ 1 := by unfold kB; (repeat' split) <;> exact ⟨by decide, by decide⟩
          have epx : px + (txL (fmI (S 74 px)).toNat : Nat) + 1 = kP (S 74 px) (S 74) (S 73 0) (px + 1) := by omega
          exact ih ib _ _ _ (by first | assumption | omega) (by omega) (by omega) (by rw [epx]; exact hE) (by rw [epx, hvSy, e73, e74]; exact hG) (by rw [epx, hvSy, e73, e74, ← hB]; rw [e73, e74] at cq35; omega) (by exact hf.tr hfSy) (by rw [hvSy]; exact wf_kG hwx _ _ _ _) (by omega)
  refine g_iconst (q := 1) B dX6_performOn_0 rfl ?_
  refine g_istore_n (q := 2) B dX6_performOn_1 rfl (by decide) (L' := [(2, .int (iI 0)), (0, .ref (yA Y 73)), (1, .ref (yA Y (4 * i)))]) rfl ?_
  refine g_iconst (q := 3) B dX6_performOn_2 rfl ?_
  refine g_istore_n (q := 4) B dX6_performOn_3 rfl (by decide) (L' := [(3, .int (iI 1)), (2, .int (iI 0)), (0, .ref (yA Y 73)), (1, .ref (yA Y (4 * i)))]) rfl ?_
  refine g_sub [2, 3, 1, 0] rfl ?_
  exact lp4 _ 120 1 0 S (by first | assumption | omega) (by first | assumption | omega) (by show S 73 0 - 1 ≤ ((120 : Nat) : Int); omega) (by exact he) (by rfl) (by exact Int.zero_add _) (by exact fr.rf) (by exact hw) (Nat.lt_succ_self _)
set_option maxHeartbeats 4000000 in
theorem c_X6_firstError {Y : gY} {l : Launch} {S : SS} (hz : 0 ≤ S 73 0 ∧ S 73 0 ≤ 120) (ht : ∀ c : Int, 0 ≤ c → c < 120 → 0 ≤ S 74 c ∧ S 74 c ≤ 255) : gM Y l mX6_firstError S [.ref (yA Y 73)] (pV (.int (iI (errF (S 74) (S 73 0)))) (fun S' => S' = S)) := by
  refine gM_of (by decide) (Nat.le_of_ble_eq_true rfl) ?_
  intro X hXl B E
  show gW Y X S 0 [(0, .ref (yA Y 73))] []
  have lp19 : ∀ (fu : Nat) (nq fi kw : Nat) (ix : Int) (x2 : Int) , x2 = ((kw : Int)) → fi < 6 → kw ≤ 3 ∧ kw ≤ txL fi → 1 ≤ ix ∧ ix ≤ 121 → S 73 0 - ix ≤ (nq : Int) → aE (S 74) (S 73 0) nq fi kw ix = errF (S 74) (S 73 0) → nq < fu → gW Y X S 19 [(0, .ref (yA Y 73)), (1, .ref (yK Y fi)), (2, .int (iI x2)), (3, .int (iI ix))] [] := by
    intro fu
    induction fu with
    | zero =>
      intro nq fi kw ix x2 e_x2 hfi6 hkw hix hnq hA hfu
      exact absurd hfu (Nat.not_lt_zero _)
    | succ fu ih =>
      intro nq fi kw ix x2 e_x2 hfi6 hkw hix hnq hA hfu
      subst e_x2
      have htl := txL_in fi
      refine g_iload_n (q := 20) B dX6_firstError_19 rfl 3 rfl ?_
      refine g_aload_n (q := 21) B dX6_firstError_20 rfl 0 rfl ?_
      refine g_get (n := 73) (ty := tyX6) (q := 24) (v := .int (iI (S 73 0))) B dX6_firstError_21 rfl rfl rfl cls4 1 (by decide) w51 rfl ?_
      refine g_icmp_ge (t := 86) (q := 27) B dX6_firstError_24 (by decide) rfl ⟨by omega, by omega⟩ ⟨by omega, by omega⟩ (fun cq24 => ?_) (fun cq24 => ?_)
      · refine g_iload_n (q := 87) B dX6_firstError_86 rfl 2 rfl ?_
        refine g_aload_n (q := 88) B dX6_firstError_87 rfl 1 rfl ?_
        refine g_callT fi hfi6 (q := 91) (As := []) (st := [.int (iI ((kw : Int)))]) B dX6_firstError_88 rfl (c_J0_length_8abf5 (l := xL X) (S := S) fi hfi6 ) eJ0_length_8abf5 w297 (by decide) rfl rfl (Nat.le_of_ble_eq_true rfl) (g_kE ?_)
        refine g_icmp_ge (t := 101) (q := 94) B dX6_firstError_91 (by decide) rfl ⟨by omega, by omega⟩ ⟨by omega, by omega⟩ (fun cq91 => ?_) (fun cq91 => ?_)
        · refine g_iconst (q := 102) B dX6_firstError_101 rfl ?_
          refine g_iret B E dX6_firstError_102 ?_
          exact ⟨by rw [← hA, aE_out (by omega), if_neg (by omega)], rfl⟩
        · refine g_aload_n (q := 95) B dX6_firstError_94 rfl 0 rfl ?_
          refine g_get (n := 73) (ty := tyX6) (q := 98) (v := .int (iI (S 73 0))) B dX6_firstError_95 rfl rfl rfl cls4 1 (by decide) w51 rfl ?_
          refine g_goto (q := 102) B dX6_firstError_98 (by decide) ?_
          refine g_iret B E dX6_firstError_102 ?_
          exact ⟨by rw [← hA, aE_out (by omega), if_pos (by omega)], rfl⟩
      · refine g_iload_n (q := 28) B dX6_firstError_27 rfl 2 rfl ?_
        refine g_aload_n (q := 29) B dX6_firstError_28 rfl 1 rfl ?_
        refine g_callT fi hfi6 (q := 32) (As := []) (st := [.int (iI ((kw : Int)))]) B dX6_firstError_29 rfl (c_J0_length_8abf5 (l := xL X) (S := S) fi hfi6 ) eJ0_length_8abf5 w297 (by decide) rfl rfl (Nat.le_of_ble_eq_true rfl) (g_kE ?_)
        refine g_icmp_lt (t := 52) (q := 35) B dX6_firstError_32 (by decide) rfl ⟨by omega, by omega⟩ ⟨by omega, by omega⟩ (fun cq32 => ?_) (fun cq32 => ?_)
        · refine g_aload_n (q := 53) B dX6_firstError_52 rfl 1 rfl ?_
          refine g_iload_n (q := 54) B dX6_firstError_53 rfl 2 rfl ?_
          refine g_callT fi hfi6 (q := 57) (As := [.int (iI ((kw : Int)))]) (st := []) B dX6_firstError_54 rfl (c_J0_charAt_5068e (l := xL X) (S := S) fi hfi6 kw (by omega)) eJ0_charAt_5068e w315 (by decide) rfl rfl (Nat.le_of_ble_eq_true rfl) (g_kE ?_)
          have htc := txC_in hfi6 (j := kw) (by omega)
          refine g_aload_n (q := 58) B dX6_firstError_57 rfl 0 rfl ?_
          refine g_iload_n (q := 59) B dX6_firstError_58 rfl 3 rfl ?_
          refine g_callV (n := 73) (ty := tyX6) (q := 62) (As := [.int (iI ix)]) (st := [.int (iI (txC fi kw))]) B dX6_firstError_59 rfl (c_X6_signAt (l := xL X) (S := S) hz ht ix (by omega) (by omega)) eX6_signAt w292 (by decide) rfl rfl cls4 rfl rfl (Nat.le_of_ble_eq_true rfl) (g_kE ?_)
          have := sgF_in (t := S 74) (z := S 73 0) (i := ix) ht (by omega) (by omega)
          have esg : sgF (S 74) (S 73 0) ix = S 74 ix := if_pos (by omega)
          refine g_aload_n (q := 63) B dX6_firstError_62 rfl 0 rfl ?_
          refine g_iload_n (q := 64) B dX6_firstError_63 rfl 3 rfl ?_
          refine g_iconst (q := 65) B dX6_firstError_64 rfl ?_
          refine g_isub (q := 66) B dX6_firstError_65 rfl ?_
          refine g_callV (n := 73) (ty := tyX6) (q := 69) (As := [.int (iI (ix - 1))]) (st := [.int (iI (sgF (S 74) (S 73 0) ix)), .int (iI (txC fi kw))]) B dX6_firstError_66 rfl (c_X6_signAt (l := xL X) (S := S) hz ht (ix - 1) (by omega) (by omega)) eX6_signAt w292 (by decide) rfl rfl cls4 rfl rfl (Nat.le_of_ble_eq_true rfl) (g_kE ?_)
          have := sgF_in (t := S 74) (z := S 73 0) (i := ix - 1) ht (by omega) (by omega)
          have esg2 : sgF (S 74) (S 73 0) (ix - 1) = S 74 (ix - 1) := if_pos (by omega)
          refine g_callS (q := 72) (As := [.int (iI (txC fi kw)), .int (iI (sgF (S 74) (S 73 0) ix)), .int (iI (sgF (S 74) (S 73 0) (ix - 1)))]) (st := []) B dX6_firstError_69 rfl (c_X6_fits (l := xL X) (S := S) (txC fi kw) (sgF (S 74) (S 73 0) ix) (sgF (S 74) (S 73 0) (ix - 1)) (by omega) (by omega) (by omega)) eX6_fits w353 (by decide) rfl rfl (Nat.le_of_ble_eq_true rfl) (g_kE ?_)
          have := fitF_in (txC fi kw) (sgF (S 74) (S 73 0) ix) (sgF (S 74) (S 73 0) (ix - 1))
          refine g_if_ne (t := 77) (q := 75) B dX6_firstError_72 (by decide) rfl ⟨by omega, by omega⟩ (fun cq72 => ?_) (fun cq72 => ?_)
          · refine g_iinc (n := 2) (q := 80) B dX6_firstError_77 rfl rfl (by decide) (L' := [(2, .int (iI ((kw : Int) + 1))), (0, .ref (yA Y 73)), (1, .ref (yK Y fi)), (3, .int (iI ix))]) rfl ?_
            refine g_iinc (n := 3) (q := 83) B dX6_firstError_80 rfl rfl (by decide) (L' := [(3, .int (iI (ix + 1))), (2, .int (iI ((kw : Int) + 1))), (0, .ref (yA Y 73)), (1, .ref (yK Y fi))]) rfl ?_
            refine g_goto (q := 19) B dX6_firstError_83 (by decide) ?_
            refine g_sub [2, 3, 1, 0] rfl ?_
            exact ih (nq - 1) fi (kw + 1) _ _ (by first | rfl | omega) (by first | assumption | omega) (by first | assumption | omega) (by first | assumption | omega) (by first | assumption | omega) (by rw [← hA, aE_fit (i := ix) (by omega) (by omega) (by omega), if_neg (by rw [← esg, ← esg2]; exact cq72)]) (by omega)
          · refine g_iload_n (q := 76) B dX6_firstError_75 rfl 3 rfl ?_
            refine g_iret B E dX6_firstError_76 ?_
            exact ⟨by rw [← hA, aE_fit (by omega) (by omega) (by omega), if_pos (by rw [← esg, ← esg2]; exact cq72)], rfl⟩
        · refine g_aload_n (q := 36) B dX6_firstError_35 rfl 0 rfl ?_
          refine g_iload_n (q := 37) B dX6_firstError_36 rfl 3 rfl ?_
          refine g_callV (n := 73) (ty := tyX6) (q := 40) (As := [.int (iI ix)]) (st := []) B dX6_firstError_37 rfl (c_X6_signAt (l := xL X) (S := S) hz ht ix (by omega) (by omega)) eX6_signAt w292 (by decide) rfl rfl cls4 rfl rfl (Nat.le_of_ble_eq_true rfl) (g_kE ?_)
          have := sgF_in (t := S 74) (z := S 73 0) (i := ix) ht (by omega) (by omega)
          have esg : sgF (S 74) (S 73 0) ix = S 74 ix := if_pos (by omega)
          refine g_callS (q := 43) (As := [.int (iI (sgF (S 74) (S 73 0) ix))]) (st := []) B dX6_firstError_40 rfl (c_X6_formOf (l := xL X) (S := S) (sgF (S 74) (S 73 0) ix) (by omega)) eX6_formOf w307 (by decide) rfl rfl (Nat.le_of_ble_eq_true rfl) (g_kE ?_)
          have hfm := fmI_in (sgF (S 74) (S 73 0) ix)
          by_cases hfz : fmI (sgF (S 74) (S 73 0) ix) = -1
          · refine g_eqT (st' := [.null]) (by rw [fmR_n hfz]) ?_
            refine g_astore_nN (q := 44) B dX6_firstError_43 rfl (by decide) (L' := [(1, .null), (0, .ref (yA Y 73)), (2, .int (iI ((kw : Int)))), (3, .int (iI ix))]) rfl ?_
            refine g_iconst (q := 45) B dX6_firstError_44 rfl ?_
            refine g_istore_n (q := 46) B dX6_firstError_45 rfl (by decide) (L' := [(2, .int (iI 0)), (1, .null), (0, .ref (yA Y 73)), (3, .int (iI ix))]) rfl ?_
            refine g_aload_nN (q := 47) B dX6_firstError_46 rfl 1 rfl ?_
            refine g_ifnonnull0 (q := 50) B dX6_firstError_47 rfl ?_
            refine g_iload_n (q := 51) B dX6_firstError_50 rfl 3 rfl ?_
            refine g_iret B E dX6_firstError_51 ?_
            exact ⟨by rw [← hA, aE_new (by omega) (by omega) (by omega), if_pos (by rw [← esg]; exact hfz)], rfl⟩
          · refine g_eqT (st' := [.ref (yK Y (fmI (sgF (S 74) (S 73 0) ix)).toNat)]) (by rw [fmR_r hfz]) ?_
            refine g_astore_n (q := 44) B dX6_firstError_43 rfl (by decide) (L' := [(1, .ref (yK Y ((fmI (sgF (S 74) (S 73 0) ix)).toNat))), (0, .ref (yA Y 73)), (2, .int (iI ((kw : Int)))), (3, .int (iI ix))]) rfl ?_
            refine g_iconst (q := 45) B dX6_firstError_44 rfl ?_
            refine g_istore_n (q := 46) B dX6_firstError_45 rfl (by decide) (L' := [(2, .int (iI 0)), (1, .ref (yK Y ((fmI (sgF (S 74) (S 73 0) ix)).toNat))), (0, .ref (yA Y 73)), (3, .int (iI ix))]) rfl ?_
            refine g_aload_n (q := 47) B dX6_firstError_46 rfl 1 rfl ?_
            refine g_ifnonnull (q := 80) B dX6_firstError_47 (by decide) ?_
            refine g_iinc (n := 3) (q := 83) B dX6_firstError_80 rfl rfl (by decide) (L' := [(3, .int (iI (ix + 1))), (2, .int (iI 0)), (1, .ref (yK Y ((fmI (sgF (S 74) (S 73 0) ix)).toNat))), (0, .ref (yA Y 73))]) rfl ?_
            refine g_goto (q := 19) B dX6_firstError_83 (by decide) ?_
            refine g_sub [3, 2, 1, 0] rfl ?_
            exact ih (nq - 1) ((fmI (sgF (S 74) (S 73 0) ix)).toNat) 0 _ _ (by rfl) (by omega) (by exact ⟨by decide, Nat.zero_le _⟩) (by first | assumption | omega) (by first | assumption | omega) (by rw [← hA, aE_new (i := ix) (by omega) (by omega) (by omega), if_neg (by rw [← esg]; exact hfz), ← esg]) (by omega)
  refine g_aload_n (q := 1) B dX6_firstError_0 rfl 0 rfl ?_
  refine g_iconst (q := 2) B dX6_firstError_1 rfl ?_
  refine g_callV (n := 73) (ty := tyX6) (q := 5) (As := [.int (iI 0)]) (st := []) B dX6_firstError_2 rfl (c_X6_signAt (l := xL X) (S := S) hz ht 0 (by omega) (by omega)) eX6_signAt w292 (by decide) rfl rfl cls4 rfl rfl (Nat.le_of_ble_eq_true rfl) (g_kE ?_)
  have := sgF_in (t := S 74) (z := S 73 0) (i := 0) ht (by omega) (by omega)
  refine g_bipush (q := 7) B dX6_firstError_5 rfl (by decide) ?_
  refine g_icmp_eq (t := 12) (q := 10) B dX6_firstError_7 (by decide) rfl ⟨by omega, by omega⟩ ⟨by omega, by omega⟩ (fun cq7 => ?_) (fun cq7 => ?_)
  · refine g_ldcS 0 (by decide) (q := 14) B dX6_firstError_12 rfl ?_
    refine g_astore_n (q := 15) B dX6_firstError_14 rfl (by decide) (L' := [(1, .ref (yK Y 0)), (0, .ref (yA Y 73))]) rfl ?_
    refine g_iconst (q := 16) B dX6_firstError_15 rfl ?_
    refine g_istore_n (q := 17) B dX6_firstError_16 rfl (by decide) (L' := [(2, .int (iI 0)), (1, .ref (yK Y 0)), (0, .ref (yA Y 73))]) rfl ?_
    refine g_iconst (q := 18) B dX6_firstError_17 rfl ?_
    refine g_istore_n (q := 19) B dX6_firstError_18 rfl (by decide) (L' := [(3, .int (iI 1)), (2, .int (iI 0)), (1, .ref (yK Y 0)), (0, .ref (yA Y 73))]) rfl ?_
    refine g_sub [3, 2, 1, 0] rfl ?_
    have hcq : ¬ (S 73 0 = 0 ∨ S 74 0 ≠ 78) := by
      rintro (h | h)
      · rw [sgF, if_neg (by omega)] at cq7; omega
      · rw [sgF] at cq7; split at cq7 <;> omega
    exact lp19 _ 120 0 0 1 _ (by rfl) (by first | assumption | omega) (by decide) (by first | assumption | omega) (by show S 73 0 - 1 ≤ ((120 : Nat) : Int); omega) (by rw [aE_err _ hz.2, errF, if_neg hcq]) (Nat.lt_succ_self _)
  · refine g_iconst (q := 11) B dX6_firstError_10 rfl ?_
    refine g_iret B E dX6_firstError_11 ?_
    exact ⟨by rw [errF, if_pos (by
      by_cases h0 : S 73 0 = 0
      · exact Or.inl h0
      · refine Or.inr (fun h => cq7 ?_)
        rw [sgF, if_pos (by omega)]; exact h)], rfl⟩
