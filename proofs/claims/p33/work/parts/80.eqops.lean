theorem ite_ev {a b : Prop} [Decidable a] [Decidable b] (h : a ↔ b) (x y : Int) : (if a then x else y) = if b then x else y := by
  by_cases ha : a
  · rw [if_pos ha, if_pos (h.mp ha)]
  · rw [if_neg ha, if_neg (fun z => ha (h.mpr z))]
/-! ALIKE ROWS STAY ALIKE -/
section
variable {g h : Int → Int}
theorem eq_swap (e : eqv g h) (hm : g 0 ≤ 16) {i j : Int} (i0 : 0 ≤ i) (i1 : i < g 0) (j0 : 0 ≤ j) (j1 : j < g 0) : eqv (swapF g i j) (swapF h i j) := by
  have a := e.2 i i0 i1
  have b := e.2 j j0 j1
  have key : ∀ c : Int, g c = h c → swapF g i j c = swapF h i j c := fun c hc => by
    unfold swapF uq
    simp only [a.1, a.2.1, b.1, b.2.1, hc]
  have f0 : swapF g i j 0 = g 0 := by
    unfold swapF
    rw [uq_ne _ _ (by omega), uq_ne _ _ (by omega), uq_ne _ _ (by omega), uq_ne _ _ (by omega)]
  refine ⟨⟨key 0 e.1.1, key 1 e.1.2.1, key 2 e.1.2.2.1, key 4 e.1.2.2.2.1, key 5 e.1.2.2.2.2⟩, fun p p0 p1 => ?_⟩
  rw [f0] at p1
  have := e.2 p p0 p1
  exact ⟨key _ this.1, key _ this.2.1, key _ this.2.2⟩
theorem eq_cutOn (e : eqv g h) (p : Int) : eqv (cutOnF g p) (cutOnF h p) := by
  unfold cutOnF
  rw [← e.1.2.2.2.2]
  exact eq_uq e (by decide) (by decide) _
theorem eq_unc (e : eqv g h) (p : Int) : eqv (uncF g p) (uncF h p) := by
  unfold uncF
  rw [← e.1.2.2.2.2]
  exact eq_uq e (by decide) (by decide) _
theorem unc_0 (g : Int → Int) (p : Int) : uncF g p 0 = g 0 := by unfold uncF; exact uq_ne _ _ (by decide)
theorem eq_cutOff (e : eqv g h) (hm : g 0 ≤ 16) {p : Int} (p0 : 1 ≤ p) (p1 : p < g 0) : eqv (cutOffF g p) (cutOffF h p) := by
  unfold cutOffF
  rw [← e.1.2.2.2.2, ← eq_run (eq_unc e p) p, ← (e.2 (p - 1) (by omega) (by omega)).2.2]
  split
  · exact eq_give (eq_unc e p) (by rw [unc_0]; exact hm) _ _
  · exact e
theorem eq_cut (e : eqv g h) (hm : g 0 ≤ 16) {p : Int} (p0 : 1 ≤ p) (p1 : p < g 0) (on : Prop) [Decidable on] : eqv (cutF g p on) (cutF h p on) := by
  unfold cutF
  split
  · exact eq_cutOn e p
  · exact eq_cutOff e hm p0 p1
theorem eq_take (e : eqv g h) (hm : g 0 ≤ 16) (r : Int) : eqv (takeF g r) (takeF h r) := by
  unfold takeF
  rw [← e.1.2.2.1]
  exact eq_uq (eq_give e hm r _) (by decide) (by decide) _
theorem dealF_l (g : Int → Int) (s : Int) {c : Int} (hc : c < 38) : dealF g s c = g c := by
  unfold dealF
  rw [if_neg (by omega)]
theorem dealF_oo (g : Int → Int) (s : Int) {p : Int} (h0 : 0 ≤ p) (h1 : p < g 0) : dealF g s (38 + p) = (s + runF g p) % 2 := by
  unfold dealF
  rw [if_pos (by omega), show 38 + p - 38 = p by omega]
/-- dealt: it doesn't matter who had what -/
theorem eq_dealk (e : eqk g h) (hm : g 0 ≤ 16) (h5 : g 5 = h 5) (s : Int) : eqv (dealF g s) (dealF h s) := by
  have f : ∀ c : Int, c < 38 → dealF g s c = g c := fun c hc => dealF_l g s hc
  have f2 : ∀ c : Int, c < 38 → dealF h s c = h c := fun c hc => dealF_l h s hc
  refine ⟨⟨?_, ?_, ?_, ?_, ?_⟩, fun j h0 h1 => ?_⟩
  · rw [f 0 (by decide), f2 0 (by decide)]; exact e.1.1
  · rw [f 1 (by decide), f2 1 (by decide)]; exact e.1.2.1
  · rw [f 2 (by decide), f2 2 (by decide)]; exact e.1.2.2.1
  · rw [f 4 (by decide), f2 4 (by decide)]; exact e.1.2.2.2
  · rw [f 5 (by decide), f2 5 (by decide)]; exact h5
  · rw [f 0 (by decide)] at h1
    have er : runF g j = runF h j := by unfold runF; rw [h5]
    rw [f _ (show 6 + j < 38 by omega), f2 _ (show 6 + j < 38 by omega), f _ (show 22 + j < 38 by omega), f2 _ (show 22 + j < 38 by omega), dealF_oo g s h0 h1, dealF_oo h s h0 (by rw [← e.1.1]; exact h1), er]
    exact ⟨(e.2 j h0 h1).1, (e.2 j h0 h1).2, rfl⟩
theorem eq_deal (e : eqv g h) (hm : g 0 ≤ 16) (s : Int) : eqv (dealF g s) (dealF h s) := eq_dealk (eq_k e) hm e.1.2.2.2.2 s
theorem eq_addG (e : eqv g h) (hw : wf g) (k w : Int) : eqv (addG g k w) (addG h k w) := by
  unfold addG
  rw [← e.1.1]
  split
  · next hc => exact eq_add e hw hc.2.2
  · exact e
theorem eq_swapG (e : eqv g h) (hw : wf g) (i j : Int) : eqv (swapG g i j) (swapG h i j) := by
  unfold swapG
  rw [← e.1.1]
  split
  · next hc => exact eq_swap e hw.1.2 hc.1.1 hc.1.2 hc.2.1 hc.2.2
  · exact e
theorem eq_brkG (e : eqv g h) (hw : wf g) (j : Int) : eqv (brkG g j) (brkG h j) := by
  unfold brkG
  rw [← e.1.1]
  split
  · exact eq_brk (eq_k e) hw.1.2 j
  · exact e
theorem eq_cutG (e : eqv g h) (hw : wf g) (p b : Int) : eqv (cutG g p b) (cutG h p b) := by
  unfold cutG
  rw [← e.1.1]
  split
  · next hc => exact eq_cut e hw.1.2 hc.1 hc.2 _
  · exact e
theorem eq_giveG (e : eqv g h) (hw : wf g) (r o : Int) : eqv (giveG g r o) (giveG h r o) := by
  unfold giveG
  rw [← eq_runs e]
  split
  · exact eq_give e hw.1.2 r o
  · exact e
theorem eq_dealG (e : eqv g h) (hw : wf g) (s : Int) : eqv (dealG g s) (dealG h s) := by
  unfold dealG
  split
  · exact eq_deal e hw.1.2 s
  · exact e
theorem eq_setG (e : eqv g h) (v : Int) : eqv (setG g v) (setG h v) := by
  unfold setG
  split
  · exact eq_uq e (by decide) (by decide) v
  · exact e
theorem eq_takeG (e : eqv g h) (hw : wf g) (r : Int) : eqv (takeG g r) (takeG h r) := by
  unfold takeG
  rw [← eq_runs e]
  by_cases hr : 0 ≤ r ∧ r < runsF g
  · rw [← eq_why e hw hr.1 hr.2]
    split
    · exact eq_take e hw.1.2 r
    · exact e
  · rw [if_neg (fun z => hr z.1), if_neg (fun z => hr z.1)]; exact e
theorem eq_tGM (e : eqv g h) (hw : wf g) {r : Int} (h0 : 0 ≤ r) (h1 : r < runsF g) : eqv (takeG g r) (takeM h r) := by
  unfold takeG takeM
  rw [← eq_why e hw h0 h1]
  by_cases hy : whyF g r = 0
  · rw [if_pos ⟨⟨h0, h1⟩, hy⟩, if_pos hy]; exact eq_take e hw.1.2 r
  · rw [if_neg (fun z => hy z.2), if_neg hy]
    have := eq_uq3 e (g 3) (h 3 + 1)
    rw [uq_self] at this
    exact this
theorem eq_tMM (e : eqv g h) (hw : wf g) {r : Int} (h0 : 0 ≤ r) (h1 : r < runsF g) : eqv (takeM g r) (takeM h r) := by
  unfold takeM
  rw [← eq_why e hw h0 h1]
  split
  · exact eq_take e hw.1.2 r
  · exact eq_uq3 e _ _
/-! what was refused stays, but where it is counted -/
theorem fr3_free (g : Int → Int) : freeF g 3 = g 3 := freeF_lo g (by decide) (by decide)
theorem fr3_add (hm : 0 ≤ g 0) (k w : Int) : addF g k w 3 = g 3 := by
  unfold addF
  rw [fr3_free, uq_ne _ _ (by decide), uq_ne _ _ (by omega), uq_ne _ _ (by omega)]
theorem fr3_brk (g : Int → Int) (j : Int) : brkF g j 3 = g 3 := by
  unfold brkF
  rw [fr3_free, uq_ne _ _ (by decide)]
theorem fr3_rev (g : Int → Int) : revF g 3 = g 3 := by
  unfold revF
  rw [fr3_free, rotF_l6 _ (by decide)]
theorem fr3_swap {i j : Int} (i0 : 0 ≤ i) (j0 : 0 ≤ j) : swapF g i j 3 = g 3 := by
  unfold swapF
  rw [uq_ne _ _ (by omega), uq_ne _ _ (by omega), uq_ne _ _ (by omega), uq_ne _ _ (by omega)]
theorem fr3_give (g : Int → Int) (r o : Int) : giveF g r o 3 = g 3 := giveF_l g r o (by decide)
theorem fr3_cut (g : Int → Int) (p : Int) (on : Prop) [Decidable on] : cutF g p on 3 = g 3 := by
  unfold cutF
  split
  · exact uq_ne _ _ (by decide)
  · unfold cutOffF
    split
    · rw [fr3_give]; exact uq_ne _ _ (by decide)
    · rfl
theorem fr3_take (g : Int → Int) (r : Int) : takeF g r 3 = g 3 := by
  unfold takeF
  rw [uq_ne _ _ (by decide), fr3_give]
theorem fr3_deal (g : Int → Int) (s : Int) : dealF g s 3 = g 3 := dealF_l g s (by decide)
theorem eqs_add (e : eqs g h) (hw : wf g) (hv : wf h) (k w : Int) (hn : g 0 < 16) : eqs (addF g k w) (addF h k w) := ⟨eq_add e.1 hw hn, by rw [fr3_add hw.1.1, fr3_add hv.1.1]; exact e.2⟩
theorem eqs_swap (e : eqs g h) (hw : wf g) {i j : Int} (i0 : 0 ≤ i) (i1 : i < g 0) (j0 : 0 ≤ j) (j1 : j < g 0) : eqs (swapF g i j) (swapF h i j) := ⟨eq_swap e.1 hw.1.2 i0 i1 j0 j1, by rw [fr3_swap i0 j0, fr3_swap i0 j0]; exact e.2⟩
theorem eqs_brk (e : eqs g h) (hw : wf g) (j : Int) : eqs (brkF g j) (brkF h j) := ⟨eq_brk (eq_k e.1) hw.1.2 j, by rw [fr3_brk, fr3_brk]; exact e.2⟩
theorem eqs_rev (e : eqs g h) (hw : wf g) : eqs (revF g) (revF h) := ⟨eq_rev e.1 hw, by rw [fr3_rev, fr3_rev]; exact e.2⟩
theorem eqs_cut (e : eqs g h) (hw : wf g) {p : Int} (p0 : 1 ≤ p) (p1 : p < g 0) (on : Prop) [Decidable on] : eqs (cutF g p on) (cutF h p on) := ⟨eq_cut e.1 hw.1.2 p0 p1 on, by rw [fr3_cut, fr3_cut]; exact e.2⟩
theorem eqs_give (e : eqs g h) (hw : wf g) (r o : Int) : eqs (giveF g r o) (giveF h r o) := ⟨eq_give e.1 hw.1.2 r o, by rw [fr3_give, fr3_give]; exact e.2⟩
theorem eqs_takeM (e : eqs g h) (hw : wf g) {r : Int} (h0 : 0 ≤ r) (h1 : r < runsF g) : eqs (takeM g r) (takeM h r) := by
  refine ⟨eq_tMM e.1 hw h0 h1, ?_⟩
  unfold takeM
  rw [← eq_why e.1 hw h0 h1]
  split
  · rw [fr3_take, fr3_take]; exact e.2
  · rw [uq_eq, uq_eq, e.2]
theorem eqs_deal (e : eqs g h) (hw : wf g) (s : Int) : eqs (dealF g s) (dealF h s) := ⟨eq_deal e.1 hw.1.2 s, by rw [fr3_deal, fr3_deal]; exact e.2⟩
theorem eqs_set (e : eqs g h) (v : Int) : eqs (uq g 4 v) (uq h 4 v) := ⟨eq_uq e.1 (by decide) (by decide) v, by rw [uq_ne _ _ (by decide), uq_ne _ _ (by decide)]; exact e.2⟩
/-- the guards of the class -/
theorem addG_F {k w : Int} (hc : (0 ≤ k ∧ k < 4) ∧ (1 ≤ w ∧ w ≤ 9) ∧ g 0 < 16) : addG g k w = addF g k w := if_pos hc
theorem swapG_F {i j : Int} (hc : (0 ≤ i ∧ i < g 0) ∧ 0 ≤ j ∧ j < g 0) : swapG g i j = swapF g i j := if_pos hc
theorem brkG_F {j : Int} (hc : 0 ≤ j ∧ j < g 0) : brkG g j = brkF g j := if_pos hc
theorem cutG_F {p b : Int} (hc : 1 ≤ p ∧ p < g 0) : cutG g p b = cutF g p (b = 1) := if_pos hc
theorem giveG_F {r o : Int} (hc : (0 ≤ r ∧ r < runsF g) ∧ (o = -1 ∨ o = 0 ∨ o = 1)) : giveG g r o = giveF g r o := if_pos hc
theorem dealG_F {s : Int} (hc : s = 0 ∨ s = 1) : dealG g s = dealF g s := if_pos hc
theorem setG_F {v : Int} (hc : v = 0 ∨ v = 1) : setG g v = uq g 4 v := if_pos hc
end
/-! turns, scripts, texts on rows that are alike -/
theorem eq_tu {g h : Int → Int} (e : eqv g h) (hw : wf g) {r : Int} (h0 : 0 ≤ r) : eqv (tuT g r) (siT h r) := by
  unfold tuT siT
  by_cases c1 : r % 16 ≤ 3
  · rw [if_pos c1, if_pos (by omega), trR, if_pos (by omega)]; exact eq_addG e hw _ _
  · rw [if_neg c1]
    by_cases c2 : r % 16 ≤ 7
    · rw [if_pos c2, if_neg (show ¬ (r % 16 < 4 ∨ 13 < r % 16) by omega), trU, if_pos (show r % 16 < 8 by omega)]; exact eq_cutG e hw _ _
    · rw [if_neg c2]
      by_cases c3 : r % 16 ≤ 9
      · rw [if_pos c3, if_neg (show ¬ (r % 16 < 4 ∨ 13 < r % 16) by omega), trU, if_neg (by omega), if_neg (show ¬ r % 16 = 13 by omega)]
        by_cases cr : 0 ≤ r / 16 % 16 ∧ r / 16 % 16 < runsF h
        · rw [if_pos cr, if_pos (by omega)]; exact eq_giveG e hw _ _
        · rw [if_neg cr, giveG, if_neg (fun z => cr (by rw [← eq_runs e]; exact z.1))]; exact e
      · rw [if_neg c3]
        by_cases c4 : r % 16 ≤ 12
        · rw [if_pos c4, if_neg (show ¬ (r % 16 < 4 ∨ 13 < r % 16) by omega), trU, if_neg (by omega), if_neg (show ¬ r % 16 = 13 by omega)]
          by_cases cr : 0 ≤ r / 16 % 16 ∧ r / 16 % 16 < runsF h
          · rw [if_pos cr, if_neg (by omega)]
            exact eq_tGM e hw cr.1 (by rw [eq_runs e]; exact cr.2)
          · rw [if_neg cr, takeG, if_neg (fun z => cr (by rw [← eq_runs e]; exact z.1))]; exact e
        · rw [if_neg c4]
          by_cases c5 : r % 16 = 13
          · rw [if_pos c5, if_neg (by omega), trU, if_neg (by omega), if_pos c5]; exact eq_dealG e hw _
          · rw [if_neg c5, if_pos (show r % 16 < 4 ∨ 13 < r % 16 by omega), trR, if_neg (show ¬ r % 16 < 4 by omega)]
            by_cases c6 : r % 16 = 14
            · rw [if_pos c6, mvT]
              by_cases c7 : r / 16 / 16 % 4 = 0
              · rw [if_pos c7, if_pos ⟨c6, c7⟩]; exact eq_brkG e hw _
              · rw [if_neg c7, if_neg (fun z => c7 z.2), if_pos c6]; exact eq_swapG e hw _ _
            · rw [if_neg c6, if_neg (show ¬ (r % 16 = 14 ∧ r / 16 / 16 % 4 = 0) from fun z => c6 z.1), if_neg c6]
              by_cases c8 : r / 16 / 2 % 2 = 0
              · rw [if_pos c8, if_pos c8]; exact eq_setG e _
              · rw [if_neg c8, if_neg c8]; exact eq_rev e hw
theorem eq_pl2 {g h : Int → Int} (e : eqv g h) (hw : wf g) (z : Int) : ∀ n : Nat, eqv (plT g z n) (siG h z n)
  | 0 => e
  | n + 1 => by
    rw [plT, siG]
    exact eq_tu (eq_pl2 e hw z n) (wf_plT hw z n) (rnd_in _).1
theorem eq_la {g h : Int → Int} (e : eqv g h) (hw : wf g) : laV g = siA h := by
  unfold laV siA
  rw [e.1.1, eq_runs e, eq_gap e hw]
theorem eq_cmB {g h : Int → Int} (e : eqv g h) (hw : wf g) (hv : wf h) (a f : Int) : cmB a f g = cmB a f h := by
  have e3 : (f % 100 = 0 ∧ (0 ≤ f / 100 ∧ f / 100 ≤ runsF g - 1) ∧ whyF g (f / 100) = 0) ↔ (f % 100 = 0 ∧ (0 ≤ f / 100 ∧ f / 100 ≤ runsF h - 1) ∧ whyF h (f / 100) = 0) := by
    rw [← eq_runs e]
    constructor
    · rintro ⟨a, b, d⟩; exact ⟨a, b, by rw [← eq_why e hw b.1 (by omega)]; exact d⟩
    · rintro ⟨a, b, d⟩; exact ⟨a, b, by rw [eq_why e hw b.1 (by omega)]; exact d⟩
  have e8 : (f / 10 % 10 = 0 ∧ f % 10 < 3 ∧ (0 ≤ f / 100 ∧ f / 100 ≤ g 0 - 1) ∧ g (38 + f / 100) = (if f % 10 = 2 then -1 else f % 10)) ↔ (f / 10 % 10 = 0 ∧ f % 10 < 3 ∧ (0 ≤ f / 100 ∧ f / 100 ≤ h 0 - 1) ∧ h (38 + f / 100) = (if f % 10 = 2 then -1 else f % 10)) := by
    rw [← e.1.1]
    constructor
    · rintro ⟨a, b, d, k⟩; exact ⟨a, b, d, by rw [← (e.2 _ d.1 (by omega)).2.2]; exact k⟩
    · rintro ⟨a, b, d, k⟩; exact ⟨a, b, d, by rw [(e.2 _ d.1 (by omega)).2.2]; exact k⟩
  unfold cmB
  rw [ite_ev e3, ite_ev e8, e.1.1, eq_runs e, eq_gap e hw, eq_few (eq_k e) hw hv, eq_has e hw]
theorem eq_cc {g h : Int → Int} (e : eqv g h) (hw : wf g) (a f : Int) : eqv (ccG a f g) (cmG a f h) := by
  unfold ccG cmG
  by_cases c1 : a = 1
  · rw [if_pos c1, if_pos c1]; split
    · exact eq_cutG e hw _ _
    · exact e
  · rw [if_neg c1, if_neg c1]
    by_cases c2 : a = 2
    · rw [if_pos c2, if_pos c2]; split
      · exact eq_giveG e hw _ _
      · exact e
    · rw [if_neg c2, if_neg c2]
      by_cases c3 : a = 3
      · rw [if_pos c3, if_pos c3]
        by_cases d1 : f % 100 = 0
        · by_cases d2 : 0 ≤ f / 100 ∧ f / 100 < runsF h
          · rw [if_pos d1, if_pos ⟨d1, d2⟩]; exact eq_tGM e hw d2.1 (by rw [eq_runs e]; exact d2.2)
          · rw [if_pos d1, if_neg (fun z => d2 z.2), takeG, if_neg (fun z => d2 (by rw [← eq_runs e]; exact z.1))]; exact e
        · rw [if_neg d1, if_neg (fun z => d1 z.1)]; exact e
      · rw [if_neg c3, if_neg c3]
        by_cases c4 : a = 4
        · rw [if_pos c4, if_pos c4]; split
          · exact eq_dealG e hw _
          · exact e
        · rw [if_neg c4, if_neg c4]
          by_cases c5 : a = 5
          · rw [if_pos c5, if_pos c5]; split
            · exact eq_brkG e hw _
            · exact e
          · rw [if_neg c5, if_neg c5]; exact e
theorem eq_rc (s n : Int) : ∀ (j : Nat) {g h : Int → Int}, eqv g h → wf g → wf h → rcA s n j g = rsA s n j h
  | 0, _, _, _, _, _ => rfl
  | j + 1, g, h, e, hw, hv => by
    rw [rcA, rsA, eq_cmB e hw hv]
    split
    · rfl
    · exact eq_rc s n j (eq_cc e hw _ _) (wf_ccG hw _ _) (wf_cmG hv _ _)
theorem eq_kG {g h : Int → Int} (e : eqv g h) (hw : wf g) (c : Int) (t : Int → Int) (z q : Int) : eqv (kG c t z q g) (kG c t z q h) := by
  unfold kG
  (repeat' split) <;> first | exact e | exact eq_addG e hw _ _ | exact eq_brkG e hw _ | exact eq_takeG e hw _ | exact eq_cutG e hw _ _ | exact eq_giveG e hw _ _ | exact eq_dealG e hw _ | exact eq_setG e _ | exact eq_rev e hw
theorem eq_kB {g h : Int → Int} (e : eqv g h) (hw : wf g) {c : Int} {t : Int → Int} {z q : Int} (ho : kO c t z q = 1) : kB c t z q g = kB c t z q h := by
  by_cases ht : c = 116
  · subst ht
    have hv : fgV t z q 2 0 15 ≠ -1 := fun h1 => by
      have h2 : kO 116 t z q = yes (fgV t z q 2 0 15) := rfl
      rw [h2, h1] at ho
      exact absurd ho (by decide)
    have hin := fgV_in t z q 2 (lo := 0) (hi := 15) (by decide)
    have e3 : (fgV t z q 2 0 15 < runsF g ∧ whyF g (fgV t z q 2 0 15) = 0) ↔ (fgV t z q 2 0 15 < runsF h ∧ whyF h (fgV t z q 2 0 15) = 0) := by
      rw [← eq_runs e]
      constructor
      · rintro ⟨a, d⟩; exact ⟨a, by rw [← eq_why e hw (by omega) a]; exact d⟩
      · rintro ⟨a, d⟩; exact ⟨a, by rw [eq_why e hw (by omega) a]; exact d⟩
    show (if fgV t z q 2 0 15 < runsF g ∧ whyF g (fgV t z q 2 0 15) = 0 then (0 : Int) else 1) = if fgV t z q 2 0 15 < runsF h ∧ whyF h (fgV t z q 2 0 15) = 0 then 0 else 1
    exact ite_ev e3 _ _
  · unfold kB
    rw [if_neg ht, if_neg ht, e.1.1, eq_runs e]
theorem eq_rt (t : Int → Int) (z : Int) : ∀ (n : Nat) (p : Int) {g h : Int → Int}, eqv g h → wf g → rtE t z n p = -1 → 0 ≤ p → eqv (rtG t z n p g) (rtG t z n p h) ∧ rtB t z n p g = rtB t z n p h
  | 0, _, _, _, e, _, _, _ => ⟨e, rfl⟩
  | n + 1, p, g, h, e, hw, hr, p0 => by
    rw [rtG, rtG, rtB, rtB]
    by_cases hp : p < z
    · rw [if_pos hp, if_pos hp, if_pos hp, if_pos hp]
      rw [rtE, if_pos hp] at hr
      have hk := kP_in (c := t p) (t := t) (z := z) (q := p + 1) (by omega)
      by_cases ho : kO (t p) t z (p + 1) = 1
      · rw [if_pos ho] at hr
        have ih := eq_rt t z n (kP (t p) t z (p + 1)) (eq_kG e hw (t p) t z (p + 1)) (wf_kG hw _ _ _ _) hr (by omega)
        exact ⟨ih.1, by rw [ih.2, eq_kB e hw ho]⟩
      · rw [if_neg ho] at hr
        omega
    · rw [if_neg hp, if_neg hp, if_neg hp, if_neg hp]; exact ⟨e, rfl⟩
