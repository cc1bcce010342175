/-! EACH CALL, STEP BY STEP -/
section
variable {g h : Int → Int}
theorem vq_about (e : eqs g h) (hw : wf g) (u : Int) : vl_about h u = vl_about g u := by
  unfold vl_about
  rw [e.1.1.1, e.1.1.2.1, e.1.1.2.2.1, e.1.1.2.2.2.1, e.1.1.2.2.2.2, e.2, eq_runs e.1, eq_gap e.1 hw, eq_nob e.1]
theorem vq_jewelOf (e : eqv g h) {j u : Int} (hc : cd_jewelOf g j u = 0) : vl_jewelOf h j u = vl_jewelOf g j u := by
  have hj : 0 ≤ j ∧ j < g 0 := by unfold cd_jewelOf at hc; split at hc <;> omega
  have := e.2 j hj.1 hj.2
  unfold vl_jewelOf
  rw [this.1, this.2.1, e.1.1, e.1.2.1]
theorem vq_placeOf (e : eqv g h) {p u : Int} (hc : cd_placeOf g p u = 0) : vl_placeOf h p u = vl_placeOf g p u := by
  have hj : 0 ≤ p ∧ p < g 0 := by unfold cd_placeOf at hc; split at hc <;> omega
  have := e.2 p hj.1 hj.2
  unfold vl_placeOf
  rw [this.2.2, eq_jat (eq_k e), eq_run e, e.1.2.2.2.2]
theorem vq_runOf (e : eqv g h) (hw : wf g) {r u : Int} (hc : cd_runOf g r u = 0) : vl_runOf h r u = vl_runOf g r u := by
  have hj : 0 ≤ r ∧ r < runsF g := by unfold cd_runOf at hc; split at hc <;> omega
  obtain ⟨f0, f1, -, -⟩ := fpF_in hw hj.1 hj.2
  have := e.2 _ f0 f1
  unfold vl_runOf
  rw [← eq_fp e, this.2.2, eq_pl e, eq_rv e hw]
theorem bb_eq {g h : Int → Int} (e : eqv g h) (hw : wf g) (hv : wf h) : (bbG h (h 0).toNat).1 = (bkG g (g 0).toNat).1 := by
  have h0 := hw.1.1
  rw [← e.1.1]
  exact (eq_bb e hw hv (g 0).toNat (by omega)).1.symm
theorem br_eq {g h : Int → Int} (e : eqv g h) (hw : wf g) : (brG h (runsF h).toNat).1 = (ckG g (runsF g).toNat).1 := by
  have h0 := runsF_in g
  rw [← eq_runs e, eq_br e hw (runsF g).toNat (by omega)]
end
section
variable {S S1 S2 : SS} {v w : Option Value}
theorem st_about (h : RR S) (u : Int) (h1 : wP (cd_about u) (vl_about (vw S 0) u) (fun S' => S' = S) (fun S' => S' = S) v S1) (h2 : pC S1 (cd_about u) (vl_about (mw S1 84) u) w S2) : stp v w S2 := by
  obtain ⟨⟨e, hw, hv⟩, -⟩ := id h
  have hk : keep S S1 := wP_keep h1 (fun S' z => q_keep (by rw [z]; exact q_id h.2.2.2.1)) (fun S' z => q_keep (by rw [z]; exact q_id h.2.2.2.1))
  have em : mw S1 84 = mw S 84 := mw_eq (hk 84 (by decide) (by decide))
  rw [em] at h2
  obtain ⟨a, b, d⟩ := pC_q h2
  exact st_q h h1 (fun S' z => by rw [z]; exact q_id h.2.2.2.1) (fun S' z => by rw [z]; exact q_id h.2.2.2.1) a b d (rfl) (by unfold cd_about; (repeat' split) <;> omega) (fun c0 => vq_about e hw u)
theorem st_jewelOf (h : RR S) (j : Int) (u : Int) (h1 : wP (cd_jewelOf (vw S 0) j u) (vl_jewelOf (vw S 0) j u) (fun S' => S' = S) (fun S' => S' = S) v S1) (h2 : pC S1 (cd_jewelOf (mw S1 84) j u) (vl_jewelOf (mw S1 84) j u) w S2) : stp v w S2 := by
  obtain ⟨⟨e, hw, hv⟩, -⟩ := id h
  have hk : keep S S1 := wP_keep h1 (fun S' z => q_keep (by rw [z]; exact q_id h.2.2.2.1)) (fun S' z => q_keep (by rw [z]; exact q_id h.2.2.2.1))
  have em : mw S1 84 = mw S 84 := mw_eq (hk 84 (by decide) (by decide))
  rw [em] at h2
  obtain ⟨a, b, d⟩ := pC_q h2
  exact st_q h h1 (fun S' z => by rw [z]; exact q_id h.2.2.2.1) (fun S' z => by rw [z]; exact q_id h.2.2.2.1) a b d (by unfold cd_jewelOf; rw [e.1.1.1]) (by unfold cd_jewelOf; (repeat' split) <;> omega) (fun c0 => vq_jewelOf e.1 c0)
theorem st_placeOf (h : RR S) (p : Int) (u : Int) (h1 : wP (cd_placeOf (vw S 0) p u) (vl_placeOf (vw S 0) p u) (fun S' => S' = S) (fun S' => S' = S) v S1) (h2 : pC S1 (cd_placeOf (mw S1 84) p u) (vl_placeOf (mw S1 84) p u) w S2) : stp v w S2 := by
  obtain ⟨⟨e, hw, hv⟩, -⟩ := id h
  have hk : keep S S1 := wP_keep h1 (fun S' z => q_keep (by rw [z]; exact q_id h.2.2.2.1)) (fun S' z => q_keep (by rw [z]; exact q_id h.2.2.2.1))
  have em : mw S1 84 = mw S 84 := mw_eq (hk 84 (by decide) (by decide))
  rw [em] at h2
  obtain ⟨a, b, d⟩ := pC_q h2
  exact st_q h h1 (fun S' z => by rw [z]; exact q_id h.2.2.2.1) (fun S' z => by rw [z]; exact q_id h.2.2.2.1) a b d (by unfold cd_placeOf; rw [e.1.1.1]) (by unfold cd_placeOf; (repeat' split) <;> omega) (fun c0 => vq_placeOf e.1 c0)
theorem st_runOf (h : RR S) (r : Int) (u : Int) (h1 : wP (cd_runOf (vw S 0) r u) (vl_runOf (vw S 0) r u) (fun S' => S' = S) (fun S' => S' = S) v S1) (h2 : pC S1 (cd_runOf (mw S1 84) r u) (vl_runOf (mw S1 84) r u) w S2) : stp v w S2 := by
  obtain ⟨⟨e, hw, hv⟩, -⟩ := id h
  have hk : keep S S1 := wP_keep h1 (fun S' z => q_keep (by rw [z]; exact q_id h.2.2.2.1)) (fun S' z => q_keep (by rw [z]; exact q_id h.2.2.2.1))
  have em : mw S1 84 = mw S 84 := mw_eq (hk 84 (by decide) (by decide))
  rw [em] at h2
  obtain ⟨a, b, d⟩ := pC_q h2
  exact st_q h h1 (fun S' z => by rw [z]; exact q_id h.2.2.2.1) (fun S' z => by rw [z]; exact q_id h.2.2.2.1) a b d (by unfold cd_runOf; rw [eq_runs e.1]) (by unfold cd_runOf; (repeat' split) <;> omega) (fun c0 => vq_runOf e.1 hw c0)
theorem st_has (h : RR S) (s : Int) (k : Int) (h1 : wP (cd_has s k) (hasF (vw S 0) s k) (fun S' => S' = S) (fun S' => S' = S) v S1) (h2 : pC S1 (cd_has s k) (hasF (mw S1 84) s k) w S2) : stp v w S2 := by
  obtain ⟨⟨e, hw, hv⟩, -⟩ := id h
  have hk : keep S S1 := wP_keep h1 (fun S' z => q_keep (by rw [z]; exact q_id h.2.2.2.1)) (fun S' z => q_keep (by rw [z]; exact q_id h.2.2.2.1))
  have em : mw S1 84 = mw S 84 := mw_eq (hk 84 (by decide) (by decide))
  rw [em] at h2
  obtain ⟨a, b, d⟩ := pC_q h2
  exact st_q h h1 (fun S' z => by rw [z]; exact q_id h.2.2.2.1) (fun S' z => by rw [z]; exact q_id h.2.2.2.1) a b d (rfl) (by unfold cd_has; (repeat' split) <;> omega) (fun c0 => (eq_has e.1 hw s k).symm)
theorem st_fewest (h : RR S) (u : Int) (h1 : wP (cd_01 u) (fewF (vw S 0)) (fun S' => fdv S S') (fun S' => S' = S) v S1) (h2 : pS S1 (cd_01 u) (fewF (mw S1 84)) w S2) : stp v w S2 := by
  obtain ⟨⟨e, hw, hv⟩, -⟩ := id h
  have hk : keep S S1 := wP_keep h1 (fun S' z => q_keep (q_fdv z)) (fun S' z => q_keep (by rw [z]; exact q_id h.2.2.2.1))
  have em : mw S1 84 = mw S 84 := mw_eq (hk 84 (by decide) (by decide))
  rw [em] at h2
  obtain ⟨a, b, d⟩ := pS_q h2
  exact st_q h h1 (fun S' z => q_fdv z) (fun S' z => by rw [z]; exact q_id h.2.2.2.1) a b d (rfl) (by unfold cd_01; (repeat' split) <;> omega) (fun c0 => (eq_few (eq_k e.1) hw hv).symm)
theorem st_divided (h : RR S) (k : Int) (h1 : wP (cd_m1 k) (divF (vw S 0) k) (fun S' => fdv S S') (fun S' => S' = S) v S1) (h2 : pS S1 (cd_m1 k) (divF (mw S1 84) k) w S2) : stp v w S2 := by
  obtain ⟨⟨e, hw, hv⟩, -⟩ := id h
  have hk : keep S S1 := wP_keep h1 (fun S' z => q_keep (q_fdv z)) (fun S' z => q_keep (by rw [z]; exact q_id h.2.2.2.1))
  have em : mw S1 84 = mw S 84 := mw_eq (hk 84 (by decide) (by decide))
  rw [em] at h2
  obtain ⟨a, b, d⟩ := pS_q h2
  exact st_q h h1 (fun S' z => q_fdv z) (fun S' z => by rw [z]; exact q_id h.2.2.2.1) a b d (rfl) (by unfold cd_m1; (repeat' split) <;> omega) (fun c0 => (eq_div (eq_k e.1) hw hv k).symm)
theorem st_leastGap (h : RR S) (m : Int) (h1 : wP (cd_04 m) (lgF (vw S 0) m.toNat) (fun S' => fdv S S') (fun S' => S' = S) v S1) (h2 : pS S1 (cd_04 m) (lgF (mw S1 84) m.toNat) w S2) : stp v w S2 := by
  obtain ⟨⟨e, hw, hv⟩, -⟩ := id h
  have hk : keep S S1 := wP_keep h1 (fun S' z => q_keep (q_fdv z)) (fun S' z => q_keep (by rw [z]; exact q_id h.2.2.2.1))
  have em : mw S1 84 = mw S 84 := mw_eq (hk 84 (by decide) (by decide))
  rw [em] at h2
  obtain ⟨a, b, d⟩ := pS_q h2
  exact st_q h h1 (fun S' z => q_fdv z) (fun S' z => by rw [z]; exact q_id h.2.2.2.1) a b d (rfl) (by unfold cd_04; (repeat' split) <;> omega) (fun c0 => (eq_lg (eq_k e.1) hw hv _).symm)
theorem st_ifGiven (h : RR S) (r : Int) (o : Int) (h1 : wP (cd_give (vw S 0) r o) (gapF (giveG (vw S 0) r o)) (fun S' => fr S S' 1) (fun S' => S' = S) v S1) (h2 : pT S1 (cd_give (mw S1 84) r o) (gapF (giveF (mw S1 84) r o)) w S2) : stp v w S2 := by
  obtain ⟨⟨e, hw, hv⟩, -⟩ := id h
  have hk : keep S S1 := wP_keep h1 (fun S' z => q_keep (q_fr h.2.2.2.1 z)) (fun S' z => q_keep (by rw [z]; exact q_id h.2.2.2.1))
  have em : mw S1 84 = mw S 84 := mw_eq (hk 84 (by decide) (by decide))
  rw [em] at h2
  obtain ⟨a, b, d⟩ := pT_q h2
  exact st_q h h1 (fun S' z => q_fr h.2.2.2.1 z) (fun S' z => by rw [z]; exact q_id h.2.2.2.1) a b d (by unfold cd_give; rw [eq_runs e.1]) (by unfold cd_give; (repeat' split) <;> omega) (fun c0 => by rw [← giveG_F (g := mw S 84) (r := r) (o := o) (by have hq := eq_runs e.1; unfold cd_give at c0; (repeat' split at c0) <;> omega)]; exact (eq_gap (eq_giveG e.1 hw r o) (wf_giveG hw r o)).symm)
theorem st_runScript (h : RR S) (n : Int) (s : Int) (h1 : wP (cd_run n s) (rcA s n n.toNat (vw S 0)) (fun S' => f1t S S' ∧ S' 78 0 = 0) (fun S' => S' = S) v S1) (h2 : pS S1 (cd_run n s) (rsA s n n.toNat (mw S1 84)) w S2) : stp v w S2 := by
  obtain ⟨⟨e, hw, hv⟩, -⟩ := id h
  have hk : keep S S1 := wP_keep h1 (fun S' z => q_keep (q_f1 z)) (fun S' z => q_keep (by rw [z]; exact q_id h.2.2.2.1))
  have em : mw S1 84 = mw S 84 := mw_eq (hk 84 (by decide) (by decide))
  rw [em] at h2
  obtain ⟨a, b, d⟩ := pS_q h2
  exact st_q h h1 (fun S' z => q_f1 z) (fun S' z => by rw [z]; exact q_id h.2.2.2.1) a b d (rfl) (by unfold cd_run; (repeat' split) <;> omega) (fun c0 => (eq_rc s n n.toNat e.1 hw hv).symm)
theorem st_simulate (h : RR S) (z : Int) (m : Int) (h1 : wP (cd_sim m) (laV (plT (vw S 0) z m.toNat)) (fun S' => fr S S' 1) (fun S' => S' = S) v S1) (h2 : pS S1 (cd_sim m) (siA (siG (mw S1 84) z m.toNat)) w S2) : stp v w S2 := by
  obtain ⟨⟨e, hw, hv⟩, -⟩ := id h
  have hk : keep S S1 := wP_keep h1 (fun S' z => q_keep (q_fr h.2.2.2.1 z)) (fun S' z => q_keep (by rw [z]; exact q_id h.2.2.2.1))
  have em : mw S1 84 = mw S 84 := mw_eq (hk 84 (by decide) (by decide))
  rw [em] at h2
  obtain ⟨a, b, d⟩ := pS_q h2
  exact st_q h h1 (fun S' z => q_fr h.2.2.2.1 z) (fun S' z => by rw [z]; exact q_id h.2.2.2.1) a b d (rfl) (by unfold cd_sim; (repeat' split) <;> omega) (fun c0 => (eq_la (eq_pl2 e.1 hw z _) (wf_plT hw z _)).symm)
theorem st_jewel (h : RR S) (k : Int) (u : Int) (h1 : wP (cd_jewel (vw S 0) k u) (S (4 * 0) 0) (fun S' => chP S S' (addG (vw S 0) k u)) (fun S' => S' = S) v S1) (h2 : pX S1 (cd_jewel (mw S1 84) k u) (S1 84 0) (addF (mw S1 84) k u) w S2) : stp v w S2 := by
  obtain ⟨⟨e, hw, hv⟩, -, ⟨hnx, -⟩, h8, -⟩ := id h
  have hk : keep S S1 := wP_keep h1 (fun S' z => h_keep (h_ch z h8 hnx)) (fun S' z => q_keep (by rw [z]; exact q_id h.2.2.2.1))
  have e84 : S1 84 = S 84 := hk 84 (by decide) (by decide)
  have em : mw S1 84 = mw S 84 := mw_eq e84
  rw [em] at h2
  obtain ⟨a9, b9, d9⟩ := pX_q h2
  have er := eq_runs e.1
  have e0 : vw S 0 0 = mw S 84 0 := e.1.1.1
  have hgd : cd_jewel (vw S 0) k u = 0 → good (addG (vw S 0) k u) (addF (mw S 84) k u) := fun c0 => by
    have hc : (0 ≤ k ∧ k < 4) ∧ (1 ≤ u ∧ u ≤ 9) ∧ vw S 0 0 < 16 := by unfold cd_jewel at c0; (repeat' split at c0) <;> omega
    rw [addG_F hc]
    exact ⟨eqs_add e hw hv k u hc.2.2, wf_add hw hc.1 hc.2.1 hc.2.2, wf_add hv hc.1 hc.2.1 (by rw [← e0]; exact hc.2.2)⟩
  exact st_h h h1 (fun S' _ z => h_ch z h8 hnx) (fun S' z => by rw [z]; exact q_id h.2.2.2.1) a9 b9 d9 (by unfold cd_jewel; rw [e.1.1.1]) (by unfold cd_jewel; (repeat' split) <;> omega) hgd (fun c0 => by rw [e84]; exact e0.symm)
theorem st_exchange (h : RR S) (i : Int) (j : Int) (h1 : wP (cd_exchange (vw S 0) i j) (gapF (swapG (vw S 0) i j)) (fun S' => chP S S' (swapG (vw S 0) i j)) (fun S' => S' = S) v S1) (h2 : pX S1 (cd_exchange (mw S1 84) i j) (gapF (swapF (mw S1 84) i j)) (swapF (mw S1 84) i j) w S2) : stp v w S2 := by
  obtain ⟨⟨e, hw, hv⟩, -, ⟨hnx, -⟩, h8, -⟩ := id h
  have hk : keep S S1 := wP_keep h1 (fun S' z => h_keep (h_ch z h8 hnx)) (fun S' z => q_keep (by rw [z]; exact q_id h.2.2.2.1))
  have e84 : S1 84 = S 84 := hk 84 (by decide) (by decide)
  have em : mw S1 84 = mw S 84 := mw_eq e84
  rw [em] at h2
  obtain ⟨a9, b9, d9⟩ := pX_q h2
  have er := eq_runs e.1
  have e0 : vw S 0 0 = mw S 84 0 := e.1.1.1
  have hgd : cd_exchange (vw S 0) i j = 0 → good (swapG (vw S 0) i j) (swapF (mw S 84) i j) := fun c0 => by
    have hc : (0 ≤ i ∧ i < vw S 0 0) ∧ 0 ≤ j ∧ j < vw S 0 0 := by unfold cd_exchange at c0; (repeat' split at c0) <;> omega
    have hc2 : (0 ≤ i ∧ i < mw S 84 0) ∧ 0 ≤ j ∧ j < mw S 84 0 := by omega
    refine ⟨by rw [swapG_F hc]; exact eqs_swap e hw hc.1.1 hc.1.2 hc.2.1 hc.2.2, wf_swapG hw i j, ?_⟩
    rw [← swapG_F hc2]
    exact wf_swapG hv i j
  exact st_h h h1 (fun S' _ z => h_ch z h8 hnx) (fun S' z => by rw [z]; exact q_id h.2.2.2.1) a9 b9 d9 (by unfold cd_exchange; rw [e.1.1.1]) (by unfold cd_exchange; (repeat' split) <;> omega) hgd (fun c0 => (eq_gap (hgd c0).1.1 (hgd c0).2.1).symm)
theorem st_breakAt (h : RR S) (j : Int) (h1 : wP (cd_breakAt (vw S 0) j) (S (4 * 0) 1) (fun S' => chP S S' (brkG (vw S 0) j)) (fun S' => S' = S) v S1) (h2 : pX S1 (cd_breakAt (mw S1 84) j) (S1 84 1) (brkF (mw S1 84) j) w S2) : stp v w S2 := by
  obtain ⟨⟨e, hw, hv⟩, -, ⟨hnx, -⟩, h8, -⟩ := id h
  have hk : keep S S1 := wP_keep h1 (fun S' z => h_keep (h_ch z h8 hnx)) (fun S' z => q_keep (by rw [z]; exact q_id h.2.2.2.1))
  have e84 : S1 84 = S 84 := hk 84 (by decide) (by decide)
  have em : mw S1 84 = mw S 84 := mw_eq e84
  rw [em] at h2
  obtain ⟨a9, b9, d9⟩ := pX_q h2
  have er := eq_runs e.1
  have e0 : vw S 0 0 = mw S 84 0 := e.1.1.1
  have hgd : cd_breakAt (vw S 0) j = 0 → good (brkG (vw S 0) j) (brkF (mw S 84) j) := fun c0 => by
    have hc : 0 ≤ j ∧ j < vw S 0 0 := by unfold cd_breakAt at c0; (repeat' split at c0) <;> omega
    rw [brkG_F hc]
    exact ⟨eqs_brk e hw j, wf_brk hw hc.1 hc.2, wf_brk hv hc.1 (by rw [← e0]; exact hc.2)⟩
  exact st_h h h1 (fun S' _ z => h_ch z h8 hnx) (fun S' z => by rw [z]; exact q_id h.2.2.2.1) a9 b9 d9 (by unfold cd_breakAt; rw [e.1.1.1]) (by unfold cd_breakAt; (repeat' split) <;> omega) hgd (fun c0 => by rw [e84]; exact e.1.1.2.1.symm)
theorem st_cut (h : RR S) (b : Int) (p : Int) (h1 : wP (cd_cut (vw S 0) p) (runsF (cutG (vw S 0) p b)) (fun S' => chP S S' (cutG (vw S 0) p b)) (fun S' => S' = S) v S1) (h2 : pX S1 (cd_cut (mw S1 84) p) (runsF (cutF (mw S1 84) p (b = 1))) (cutF (mw S1 84) p (b = 1)) w S2) : stp v w S2 := by
  obtain ⟨⟨e, hw, hv⟩, -, ⟨hnx, -⟩, h8, -⟩ := id h
  have hk : keep S S1 := wP_keep h1 (fun S' z => h_keep (h_ch z h8 hnx)) (fun S' z => q_keep (by rw [z]; exact q_id h.2.2.2.1))
  have e84 : S1 84 = S 84 := hk 84 (by decide) (by decide)
  have em : mw S1 84 = mw S 84 := mw_eq e84
  rw [em] at h2
  obtain ⟨a9, b9, d9⟩ := pX_q h2
  have er := eq_runs e.1
  have e0 : vw S 0 0 = mw S 84 0 := e.1.1.1
  have hgd : cd_cut (vw S 0) p = 0 → good (cutG (vw S 0) p b) (cutF (mw S 84) p (b = 1)) := fun c0 => by
    have hc : 1 ≤ p ∧ p < vw S 0 0 := by unfold cd_cut at c0; (repeat' split at c0) <;> omega
    have hc2 : 1 ≤ p ∧ p < mw S 84 0 := by omega
    refine ⟨by rw [cutG_F hc]; exact eqs_cut e hw hc.1 hc.2 _, wf_cutG hw p b, ?_⟩
    rw [← cutG_F hc2]
    exact wf_cutG hv p b
  exact st_h h h1 (fun S' _ z => h_ch z h8 hnx) (fun S' z => by rw [z]; exact q_id h.2.2.2.1) a9 b9 d9 (by unfold cd_cut; rw [e.1.1.1]) (by unfold cd_cut; (repeat' split) <;> omega) hgd (fun c0 => (eq_runs (hgd c0).1.1).symm)
theorem st_give (h : RR S) (r : Int) (o : Int) (h1 : wP (cd_give (vw S 0) r o) (gapF (giveG (vw S 0) r o)) (fun S' => chP S S' (giveG (vw S 0) r o)) (fun S' => S' = S) v S1) (h2 : pX S1 (cd_give (mw S1 84) r o) (gapF (giveF (mw S1 84) r o)) (giveF (mw S1 84) r o) w S2) : stp v w S2 := by
  obtain ⟨⟨e, hw, hv⟩, -, ⟨hnx, -⟩, h8, -⟩ := id h
  have hk : keep S S1 := wP_keep h1 (fun S' z => h_keep (h_ch z h8 hnx)) (fun S' z => q_keep (by rw [z]; exact q_id h.2.2.2.1))
  have e84 : S1 84 = S 84 := hk 84 (by decide) (by decide)
  have em : mw S1 84 = mw S 84 := mw_eq e84
  rw [em] at h2
  obtain ⟨a9, b9, d9⟩ := pX_q h2
  have er := eq_runs e.1
  have e0 : vw S 0 0 = mw S 84 0 := e.1.1.1
  have hgd : cd_give (vw S 0) r o = 0 → good (giveG (vw S 0) r o) (giveF (mw S 84) r o) := fun c0 => by
    have hc : (0 ≤ r ∧ r < runsF (vw S 0)) ∧ (o = -1 ∨ o = 0 ∨ o = 1) := by unfold cd_give at c0; (repeat' split at c0) <;> omega
    have hc2 : (0 ≤ r ∧ r < runsF (mw S 84)) ∧ (o = -1 ∨ o = 0 ∨ o = 1) := by omega
    refine ⟨by rw [giveG_F hc]; exact eqs_give e hw r o, wf_giveG hw r o, ?_⟩
    rw [← giveG_F hc2]
    exact wf_giveG hv r o
  exact st_h h h1 (fun S' _ z => h_ch z h8 hnx) (fun S' z => by rw [z]; exact q_id h.2.2.2.1) a9 b9 d9 (by unfold cd_give; rw [eq_runs e.1]) (by unfold cd_give; (repeat' split) <;> omega) hgd (fun c0 => (eq_gap (hgd c0).1.1 (hgd c0).2.1).symm)
theorem st_take (h : RR S) (r : Int) (h1 : wP (cd_take (vw S 0) r) (whyF (vw S 0) r) (fun S' => chP S S' (takeM (vw S 0) r)) (fun S' => S' = S) v S1) (h2 : pX S1 (cd_take (mw S1 84) r) (whyF (mw S1 84) r) (takeM (mw S1 84) r) w S2) : stp v w S2 := by
  obtain ⟨⟨e, hw, hv⟩, -, ⟨hnx, -⟩, h8, -⟩ := id h
  have hk : keep S S1 := wP_keep h1 (fun S' z => h_keep (h_ch z h8 hnx)) (fun S' z => q_keep (by rw [z]; exact q_id h.2.2.2.1))
  have e84 : S1 84 = S 84 := hk 84 (by decide) (by decide)
  have em : mw S1 84 = mw S 84 := mw_eq e84
  rw [em] at h2
  obtain ⟨a9, b9, d9⟩ := pX_q h2
  have er := eq_runs e.1
  have e0 : vw S 0 0 = mw S 84 0 := e.1.1.1
  have hgd : cd_take (vw S 0) r = 0 → good (takeM (vw S 0) r) (takeM (mw S 84) r) := fun c0 => by
    have hc : 0 ≤ r ∧ r < runsF (vw S 0) := by unfold cd_take at c0; (repeat' split at c0) <;> omega
    exact ⟨eqs_takeM e hw hc.1 hc.2, wf_takeM hw r, wf_takeM hv r⟩
  exact st_h h h1 (fun S' _ z => h_ch z h8 hnx) (fun S' z => by rw [z]; exact q_id h.2.2.2.1) a9 b9 d9 (by unfold cd_take; rw [eq_runs e.1]) (by unfold cd_take; (repeat' split) <;> omega) hgd (fun c0 => (eq_why e.1 hw (by unfold cd_take at c0; (repeat' split at c0) <;> omega) (by unfold cd_take at c0; (repeat' split at c0) <;> omega)).symm)
theorem st_deal (h : RR S) (s : Int) (h1 : wP (cd_01 s) (gapF (dealG (vw S 0) s)) (fun S' => chP S S' (dealG (vw S 0) s)) (fun S' => S' = S) v S1) (h2 : pX S1 (cd_01 s) (gapF (dealF (mw S1 84) s)) (dealF (mw S1 84) s) w S2) : stp v w S2 := by
  obtain ⟨⟨e, hw, hv⟩, -, ⟨hnx, -⟩, h8, -⟩ := id h
  have hk : keep S S1 := wP_keep h1 (fun S' z => h_keep (h_ch z h8 hnx)) (fun S' z => q_keep (by rw [z]; exact q_id h.2.2.2.1))
  have e84 : S1 84 = S 84 := hk 84 (by decide) (by decide)
  have em : mw S1 84 = mw S 84 := mw_eq e84
  rw [em] at h2
  obtain ⟨a9, b9, d9⟩ := pX_q h2
  have er := eq_runs e.1
  have e0 : vw S 0 0 = mw S 84 0 := e.1.1.1
  have hgd : cd_01 s = 0 → good (dealG (vw S 0) s) (dealF (mw S 84) s) := fun c0 => by
    have hc : s = 0 ∨ s = 1 := by unfold cd_01 at c0; (repeat' split at c0) <;> omega
    refine ⟨by rw [dealG_F hc]; exact eqs_deal e hw s, wf_dealG hw s, ?_⟩
    rw [← dealG_F hc]
    exact wf_dealG hv s
  exact st_h h h1 (fun S' _ z => h_ch z h8 hnx) (fun S' z => by rw [z]; exact q_id h.2.2.2.1) a9 b9 d9 (rfl) (by unfold cd_01; (repeat' split) <;> omega) hgd (fun c0 => (eq_gap (hgd c0).1.1 (hgd c0).2.1).symm)
theorem st_set (h : RR S) (u : Int) (h1 : wP (cd_01 u) (S (4 * 0) 4) (fun S' => chP S S' (setG (vw S 0) u)) (fun S' => S' = S) v S1) (h2 : pX S1 (cd_01 u) (S1 84 4) (uq (mw S1 84) 4 u) w S2) : stp v w S2 := by
  obtain ⟨⟨e, hw, hv⟩, -, ⟨hnx, -⟩, h8, -⟩ := id h
  have hk : keep S S1 := wP_keep h1 (fun S' z => h_keep (h_ch z h8 hnx)) (fun S' z => q_keep (by rw [z]; exact q_id h.2.2.2.1))
  have e84 : S1 84 = S 84 := hk 84 (by decide) (by decide)
  have em : mw S1 84 = mw S 84 := mw_eq e84
  rw [em] at h2
  obtain ⟨a9, b9, d9⟩ := pX_q h2
  have er := eq_runs e.1
  have e0 : vw S 0 0 = mw S 84 0 := e.1.1.1
  have hgd : cd_01 u = 0 → good (setG (vw S 0) u) (uq (mw S 84) 4 u) := fun c0 => by
    have hc : u = 0 ∨ u = 1 := by unfold cd_01 at c0; (repeat' split at c0) <;> omega
    refine ⟨by rw [setG_F hc]; exact eqs_set e u, wf_setG hw u, ?_⟩
    rw [← setG_F hc]
    exact wf_setG hv u
  exact st_h h h1 (fun S' _ z => h_ch z h8 hnx) (fun S' z => by rw [z]; exact q_id h.2.2.2.1) a9 b9 d9 (rfl) (by unfold cd_01; (repeat' split) <;> omega) hgd (fun c0 => by rw [e84]; exact e.1.1.2.2.2.1.symm)
theorem st_divide (h : RR S) (h1 : wP (cd_dv (fewF (vw S 0))) (fewF (vw S 0)) (fun S' => dvP S S') (fun S' => fdv S S') v S1) (h2 : pD S1 w S2) : stp v w S2 := by
  obtain ⟨⟨e, hw, hv⟩, -, ⟨hnx, -⟩, h8, -⟩ := id h
  have hk : keep S S1 := wP_keep h1 (fun S' z => h_keep (h_dv z hnx)) (fun S' z => q_keep (q_fdv z))
  have em : mw S1 84 = mw S 84 := mw_eq (hk 84 (by decide) (by decide))
  obtain ⟨a, b, d⟩ := pD_q h2
  rw [em] at a b d
  have ef := eq_few (eq_k e.1) hw hv
  have hfi := isFe_in (isFe_ex (vw S 0))
  exact st_h h h1 (fun S' _ z => h_dv z hnx) (fun S' z => q_fdv z) a b d (by rw [ef]) (by unfold cd_dv; split <;> omega) (fun c0 => by
    have h0 : 0 ≤ fewF (vw S 0) := by unfold cd_dv at c0; split at c0 <;> omega
    refine ⟨eqs_dv e hw hv h0, wf_dealG (wf_lsT hw _ _) 0, ?_⟩
    exact (wf_ct hv (by rw [← ef]; exact h0) (wyF_lex hv (by rw [← ef]; exact h0)).1).2) (fun _ => ef.symm)
theorem stq_turnRound (h : RR S) (h1 : pV (.int (iI (S (4 * 0) 0))) (fun S' => chP S S' (revF (vw S 0))) v S1) (h2 : pX S1 0 (S1 84 0) (revF (mw S1 84)) w S2) : stq v w S2 := by
  obtain ⟨⟨e, hw, hv⟩, -, ⟨hnx, -⟩, h8, -⟩ := id h
  have hc := h_ch h1.2 h8 hnx
  have e84 : S1 84 = S 84 := h_keep hc 84 (by decide) (by decide)
  have em : mw S1 84 = mw S 84 := mw_eq e84
  rw [em] at h2
  obtain ⟨a, b, -⟩ := pX_q h2
  refine ⟨S (4 * 0) 0, h1.1, ?_, RR_h h ⟨eqs_rev e hw, wf_rev hw, wf_rev hv⟩ hc (b rfl)⟩
  rw [a, if_pos rfl, e84]
  exact congrArg (fun z => some (Value.int (iI z))) e.1.1.1.symm
theorem stq_bestBreak (h : RR S) (h1 : pV (.int (iI (bkG (vw S 0) (S (4 * 0) 0).toNat).1)) (fun S' => fdv S S') v S1) (h2 : pS S1 0 (bbG (mw S1 84) (S1 84 0).toNat).1 w S2) : stq v w S2 := by
  obtain ⟨⟨e, hw, hv⟩, -⟩ := id h
  have e84 : S1 84 = S 84 := q_keep (q_fdv h1.2) 84 (by decide) (by decide)
  have em : mw S1 84 = mw S 84 := mw_eq e84
  obtain ⟨a, b, -⟩ := pS_q h2
  refine ⟨_, h1.1, ?_, RR_q h (q_fdv h1.2) b⟩
  rw [a, if_pos rfl, em, e84]
  exact congrArg (fun z => some (Value.int (iI z))) (bb_eq e.1 hw hv)
theorem stq_bestRun (h : RR S) (h1 : pV (.int (iI (ckG (vw S 0) (runsF (vw S 0)).toNat).1)) (fun S' => fr S S' 1) v S1) (h2 : pT S1 0 (brG (mw S1 84) (runsF (mw S1 84)).toNat).1 w S2) : stq v w S2 := by
  obtain ⟨⟨e, hw, hv⟩, -⟩ := id h
  have hq := q_fr h.2.2.2.1 h1.2
  have e84 : S1 84 = S 84 := q_keep hq 84 (by decide) (by decide)
  have em : mw S1 84 = mw S 84 := mw_eq e84
  obtain ⟨a, b, -⟩ := pT_q h2
  refine ⟨_, h1.1, ?_, RR_q h hq b⟩
  rw [a, if_pos rfl, em]
  exact congrArg (fun z => some (Value.int (iI z))) (br_eq e.1 hw)
end
