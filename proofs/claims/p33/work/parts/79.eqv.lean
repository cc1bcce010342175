/-! TWO ROWS THAT ARE ALIKE: all that a necklace tells, but for what lies beyond its jewels, and for what was refused -/
def eqv (g h : Int → Int) : Prop := (g 0 = h 0 ∧ g 1 = h 1 ∧ g 2 = h 2 ∧ g 4 = h 4 ∧ g 5 = h 5) ∧ ∀ j : Int, 0 ≤ j → j < g 0 → g (6 + j) = h (6 + j) ∧ g (22 + j) = h (22 + j) ∧ g (38 + j) = h (38 + j)
def eqs (g h : Int → Int) : Prop := eqv g h ∧ g 3 = h 3
/-- before the cuts go and nobody has anything -/
def eqk (g h : Int → Int) : Prop := (g 0 = h 0 ∧ g 1 = h 1 ∧ g 2 = h 2 ∧ g 4 = h 4) ∧ ∀ j : Int, 0 ≤ j → j < g 0 → g (6 + j) = h (6 + j) ∧ g (22 + j) = h (22 + j)
section
variable {g h : Int → Int}
theorem eq_rf (g : Int → Int) : eqv g g := ⟨⟨rfl, rfl, rfl, rfl, rfl⟩, fun _ _ _ => ⟨rfl, rfl, rfl⟩⟩
theorem eq_k (e : eqv g h) : eqk g h := ⟨⟨e.1.1, e.1.2.1, e.1.2.2.1, e.1.2.2.2.1⟩, fun j h0 h1 => ⟨(e.2 j h0 h1).1, (e.2 j h0 h1).2.1⟩⟩
theorem eqk_sy (e : eqk g h) : eqk h g := ⟨⟨e.1.1.symm, e.1.2.1.symm, e.1.2.2.1.symm, e.1.2.2.2.symm⟩, fun j h0 h1 => by
  have := e.2 j h0 (by rw [e.1.1]; exact h1)
  exact ⟨this.1.symm, this.2.symm⟩⟩
theorem eq_run (e : eqv g h) (p : Int) : runF g p = runF h p := by unfold runF; rw [e.1.2.2.2.2]
theorem eq_runs (e : eqv g h) : runsF g = runsF h := by unfold runsF; rw [e.1.1, e.1.2.2.2.2]
theorem eq_jat (e : eqk g h) (p : Int) : jatF g p = jatF h p := by unfold jatF; rw [e.1.1, e.1.2.1]
theorem eq_val (e : eqk g h) {j : Int} (h0 : 0 ≤ j) (h1 : j < g 0) : valF g j = valF h j := by unfold valF; rw [e.1.2.2.2, (e.2 j h0 h1).2]
theorem eq_hasE (e : eqv g h) (hw : wf g) (s k : Int) {p : Int} (h0 : 0 ≤ p) (h1 : p < g 0) : hasE g s k p = hasE h s k p := by
  have hj := jatF_in hw h0 h1
  unfold hasE
  rw [← eq_jat (eq_k e) p, ← eq_val (eq_k e) hj.1 hj.2, (e.2 _ hj.1 hj.2).1, (e.2 p h0 h1).2.2]
theorem eq_has (e : eqv g h) (hw : wf g) (s k : Int) : hasF g s k = hasF h s k := by
  unfold hasF
  rw [← e.1.1]
  exact sm_cong (fun p h0 h1 => eq_hasE e hw s k h0 (by omega))
theorem eq_gap (e : eqv g h) (hw : wf g) : gapF g = gapF h := by
  unfold gapF
  exact sm_cong (fun k _ _ => by unfold gapE; rw [eq_has e hw, eq_has e hw])
theorem eq_nob (e : eqv g h) : nobF g = nobF h := by
  unfold nobF
  rw [← e.1.1]
  exact sm_cong (fun p h0 h1 => by unfold nobE; rw [(e.2 p h0 (by omega)).2.2])
theorem eq_fp (e : eqv g h) (r : Int) : fpF g r = fpF h r := by
  unfold fpF
  exact sm_cong (fun p _ _ => by unfold fpE; rw [eq_run e])
theorem eq_pl (e : eqv g h) (r : Int) : plF g r = plF h r := by
  unfold plF
  rw [← e.1.1]
  exact sm_cong (fun p _ _ => by unfold plE; rw [eq_run e])
theorem eq_rv (e : eqv g h) (hw : wf g) (r : Int) : rvF g r = rvF h r := by
  unfold rvF
  rw [← e.1.1]
  refine sm_cong (fun p h0 h1 => ?_)
  have hj := jatF_in hw h0 (show p < g 0 by omega)
  unfold rvE
  rw [eq_run e, ← eq_jat (eq_k e) p, eq_val (eq_k e) hj.1 hj.2]
theorem eq_why (e : eqv g h) (hw : wf g) {r : Int} (h0 : 0 ≤ r) (h1 : r < runsF g) : whyF g r = whyF h r := by
  obtain ⟨f0, f1, -, -⟩ := fpF_in hw h0 h1
  unfold whyF
  rw [← eq_fp e r, (e.2 _ f0 f1).2.2, e.1.2.2.1]
theorem eq_ah (e : eqk g h) (hw : wf g) (k : Int) (n : Nat) (hn : (n : Int) ≤ g 0) : ahF g k n = ahF h k n := by
  unfold ahF
  refine sm_cong (fun p h0 h1 => ?_)
  have hj := jatF_in hw h0 (show p < g 0 by omega)
  unfold ahE
  rw [← eq_jat e p, (e.2 _ hj.1 hj.2).1, eq_val e hj.1 hj.2]
theorem toW_wy {m c : Int} {t : Int → Int} (hm : 0 ≤ m) (hw : ways m c t) {n : Int} (h0 : 0 ≤ n) : 0 ≤ toW m c t n ∧ toW m c t n ≤ m := by
  unfold toW
  split
  · next hc =>
    have := (hw n h0 hc).1
    omega
  · omega
theorem eq_se (e : eqk g h) (hw : wf g) (k c : Int) {t : Int → Int} (ht : ways (g 0) c t) (n : Nat) : seW g k c t n = seW h k c t n := by
  have hm : 0 ≤ g 0 := hw.1.1
  have h1 := toW_wy hm ht (n := (n : Int)) (by omega)
  have h2 : 0 ≤ frW (g 0) c t n ∧ frW (g 0) c t n ≤ g 0 := by
    unfold frW
    split
    · omega
    · exact toW_wy hm ht (by omega)
  unfold seW
  rw [← e.1.1, eq_ah e hw k _ (by omega), eq_ah e hw k (frW (g 0) c t n).toNat (by omega)]
theorem eq_by (e : eqk g h) (hw : wf g) (k c : Int) {t : Int → Int} (ht : ways (g 0) c t) : ∀ n : Nat, byW g k c t n = byW h k c t n
  | 0 => rfl
  | n + 1 => by rw [byW, byW, eq_by e hw k c ht n, eq_se e hw k c ht n]
theorem eq_gW (e : eqk g h) (hw : wf g) {c : Int} {t : Int → Int} (ht : ways (g 0) c t) : gapW g c t = gapW h c t := by
  unfold gapW
  exact sm_cong (fun k _ _ => by unfold gpE; rw [eq_by e hw k c ht])
theorem eq_isLe1 (e : eqk g h) (hw : wf g) {c x : Int} (hl : isLe g c x) : isLe h c x := by
  rcases hl with ⟨a, b⟩ | ⟨a, ⟨t, ht, eg⟩, d⟩
  · exact Or.inl ⟨a, fun t ht => b t (by rw [e.1.1]; exact ht)⟩
  · refine Or.inr ⟨a, ⟨t, by rw [← e.1.1]; exact ht, by rw [← eq_gW e hw ht]; exact eg⟩, fun u hu => ?_⟩
    rw [← e.1.1] at hu
    rw [← eq_gW e hw hu]
    exact d u hu
theorem eq_sy (e : eqv g h) : eqv h g := ⟨⟨e.1.1.symm, e.1.2.1.symm, e.1.2.2.1.symm, e.1.2.2.2.1.symm, e.1.2.2.2.2.symm⟩, fun j h0 h1 => by
  have := e.2 j h0 (by rw [e.1.1]; exact h1)
  exact ⟨this.1.symm, this.2.1.symm, this.2.2.symm⟩⟩
theorem eq_tr {k : Int → Int} (e : eqv g h) (f : eqv h k) : eqv g k := ⟨⟨e.1.1.trans f.1.1, e.1.2.1.trans f.1.2.1, e.1.2.2.1.trans f.1.2.2.1, e.1.2.2.2.1.trans f.1.2.2.2.1, e.1.2.2.2.2.trans f.1.2.2.2.2⟩, fun j h0 h1 => by
  have a := e.2 j h0 h1
  have b := f.2 j h0 (by rw [← e.1.1]; exact h1)
  exact ⟨a.1.trans b.1, a.2.1.trans b.2.1, a.2.2.trans b.2.2⟩⟩
theorem eq_leW (e : eqk g h) (hw : wf g) (hv : wf h) (c : Int) : leW g c = leW h c := by
  have : (fun x => isLe g c x) = (fun x => isLe h c x) := funext fun x => propext ⟨eq_isLe1 e hw, eq_isLe1 (eqk_sy e) hv⟩
  unfold leW
  rw [this]
theorem eq_few (e : eqk g h) (hw : wf g) (hv : wf h) : fewF g = fewF h := by
  have : (fun x => isFe g x) = (fun x => isFe h x) := funext fun x => by
    unfold isFe
    have e2 : leW g = leW h := funext (eq_leW e hw hv)
    rw [e2]
  unfold fewF
  rw [this]
theorem eq_lex1 (e : eqk g h) (hw : wf g) {c : Int} {T : Int → Int} (hl : lexL g c T) : lexL h c T := by
  obtain ⟨a, b, d⟩ := hl
  refine ⟨by rw [← e.1.1]; exact a, by rw [← eq_gW e hw a]; exact b, fun t ht hg => ?_⟩
  rw [← e.1.1] at ht
  rw [← eq_gW e hw ht] at hg
  exact d t ht hg
theorem eq_wy (e : eqk g h) (hw : wf g) (hv : wf h) : wyF g = wyF h := by
  have : (fun T => lexL g (fewF g) T) = (fun T => lexL h (fewF h) T) := funext fun T => by
    rw [eq_few e hw hv]
    exact propext ⟨eq_lex1 e hw, eq_lex1 (eqk_sy e) hv⟩
  unfold wyF
  rw [this]
theorem eq_div (e : eqk g h) (hw : wf g) (hv : wf h) (k : Int) : divF g k = divF h k := by
  unfold divF
  rw [eq_few e hw hv, eq_wy e hw hv]
theorem eq_lg (e : eqk g h) (hw : wf g) (hv : wf h) : ∀ n : Nat, lgF g n = lgF h n
  | 0 => eq_leW e hw hv 0
  | n + 1 => by rw [lgF, lgF, eq_lg e hw hv n, eq_leW e hw hv]
theorem eq_free (e : eqk g h) (hm : g 0 ≤ 16) : eqv (freeF g) (freeF h) := by
  refine ⟨⟨e.1.1, e.1.2.1, e.1.2.2.1, e.1.2.2.2, rfl⟩, fun j h0 h1 => ?_⟩
  have h2 : j < g 0 := h1
  rw [freeF_lo g (by omega) (by omega), freeF_lo h (by omega) (by omega), freeF_lo g (by omega) (by omega), freeF_lo h (by omega) (by omega), freeF_o g h0 (by omega), freeF_o h h0 (by omega)]
  exact ⟨(e.2 j h0 h2).1, (e.2 j h0 h2).2, rfl⟩
theorem uqs {g : Int → Int} {a b x y : Int} (h : b ≠ a) (hg : g b = y) : uq g a x b = y := (uq_ne g x h).trans hg
theorem eq_add (e : eqv g h) (hw : wf g) {k w : Int} (hn : g 0 < 16) : eqv (addF g k w) (addF h k w) := by
  have hm : 0 ≤ g 0 := hw.1.1
  unfold addF
  rw [← e.1.1]
  refine eq_free ⟨⟨?_, ?_, ?_, ?_⟩, fun j h0 h1 => ?_⟩ ?_
  · rw [uq_eq, uq_eq]
  · simp only [uq_ne _ _ (show (1 : Int) ≠ 0 by decide), uq_ne _ _ (show (1 : Int) ≠ 22 + g 0 by omega), uq_ne _ _ (show (1 : Int) ≠ 6 + g 0 by omega)]; exact e.1.2.1
  · simp only [uq_ne _ _ (show (2 : Int) ≠ 0 by decide), uq_ne _ _ (show (2 : Int) ≠ 22 + g 0 by omega), uq_ne _ _ (show (2 : Int) ≠ 6 + g 0 by omega)]; exact e.1.2.2.1
  · simp only [uq_ne _ _ (show (4 : Int) ≠ 0 by decide), uq_ne _ _ (show (4 : Int) ≠ 22 + g 0 by omega), uq_ne _ _ (show (4 : Int) ≠ 6 + g 0 by omega)]; exact e.1.2.2.2.1
  · rw [uq_eq] at h1
    rw [uq_ne _ _ (show 6 + j ≠ 0 by omega), uq_ne _ _ (show 6 + j ≠ 22 + g 0 by omega), uq_ne _ _ (show 6 + j ≠ 0 by omega), uq_ne _ _ (show 6 + j ≠ 22 + g 0 by omega), uq_ne _ _ (show 22 + j ≠ 0 by omega), uq_ne _ _ (show 22 + j ≠ 0 by omega)]
    by_cases hj : j = g 0
    · rw [hj, uq_eq, uq_eq, uq_eq, uq_eq]; exact ⟨rfl, rfl⟩
    · rw [uq_ne _ _ (show 6 + j ≠ 6 + g 0 by omega), uq_ne _ _ (show 6 + j ≠ 6 + g 0 by omega), uq_ne _ _ (show 22 + j ≠ 22 + g 0 by omega), uq_ne _ _ (show 22 + j ≠ 22 + g 0 by omega), uq_ne _ _ (show 22 + j ≠ 6 + g 0 by omega), uq_ne _ _ (show 22 + j ≠ 6 + g 0 by omega)]
      exact ⟨(e.2 j h0 (by omega)).1, (e.2 j h0 (by omega)).2.1⟩
  · rw [uq_eq]; omega
theorem eq_brk (e : eqk g h) (hw : g 0 ≤ 16) (j : Int) : eqv (brkF g j) (brkF h j) := by
  unfold brkF
  refine eq_free ⟨⟨?_, ?_, ?_, ?_⟩, fun i h0 h1 => ?_⟩ ?_
  · rw [uq_ne _ _ (by decide), uq_ne _ _ (by decide)]; exact e.1.1
  · rw [uq_eq, uq_eq]
  · rw [uq_ne _ _ (by decide), uq_ne _ _ (by decide)]; exact e.1.2.2.1
  · rw [uq_ne _ _ (by decide), uq_ne _ _ (by decide)]; exact e.1.2.2.2
  · rw [uq_ne _ _ (by decide)] at h1
    rw [uq_ne _ _ (show 6 + i ≠ 1 by omega), uq_ne _ _ (show 6 + i ≠ 1 by omega), uq_ne _ _ (show 22 + i ≠ 1 by omega), uq_ne _ _ (show 22 + i ≠ 1 by omega)]
    exact e.2 i h0 h1
  · rw [uq_ne _ _ (by decide)]; exact hw
theorem rotF_l6 (g : Int → Int) {c : Int} (hc : c < 6) (m : Int) : rotF g m c = g c := by
  unfold rotF
  rw [if_neg (by omega), if_neg (by omega)]
theorem rotF_kk (g : Int → Int) {j : Int} (h0 : 0 ≤ j) (h1 : j < g 0) : rotF g (g 0) (6 + j) = g (6 + (g 0 - 1 - j)) := by
  unfold rotF
  rw [if_pos (by omega), show 6 + j - 6 = j by omega]
theorem rotF_ww (g : Int → Int) {j : Int} (h0 : 0 ≤ j) (h1 : j < g 0) (hm : g 0 ≤ 16) : rotF g (g 0) (22 + j) = g (22 + (g 0 - 1 - j)) := by
  unfold rotF
  rw [if_neg (by omega), if_pos (by omega), show 22 + j - 22 = j by omega]
theorem eq_rev (e : eqv g h) (hw : wf g) : eqv (revF g) (revF h) := by
  have hm : g 0 ≤ 16 := hw.1.2
  unfold revF
  refine eq_free ⟨⟨?_, ?_, ?_, ?_⟩, fun j h0 h1 => ?_⟩ ?_
  · rw [rotF_l6 _ (by decide), rotF_l6 _ (by decide)]; exact e.1.1
  · rw [rotF_l6 _ (by decide), rotF_l6 _ (by decide)]; exact e.1.2.1
  · rw [rotF_l6 _ (by decide), rotF_l6 _ (by decide)]; exact e.1.2.2.1
  · rw [rotF_l6 _ (by decide), rotF_l6 _ (by decide)]; exact e.1.2.2.2.1
  · rw [rotF_l6 _ (by decide)] at h1
    have e0 := e.1.1
    rw [rotF_kk g h0 h1, rotF_kk h h0 (by omega), rotF_ww g h0 h1 hm, rotF_ww h h0 (by omega) (by omega), ← e0]
    have := e.2 (g 0 - 1 - j) (by omega) (by omega)
    exact ⟨this.1, this.2.1⟩
  · rw [rotF_l6 _ (by decide)]; exact hm
theorem giveF_oo (g : Int → Int) (r o : Int) {p : Int} (h0 : 0 ≤ p) (h1 : p < g 0) : giveF g r o (38 + p) = if runF g p = r then o else g (38 + p) := by
  unfold giveF
  rw [show 38 + p - 38 = p by omega]
  by_cases hr : runF g p = r
  · rw [if_pos ⟨by omega, by omega, hr⟩, if_pos hr]
  · rw [if_neg (fun z => hr z.2.2), if_neg hr]
theorem giveF_l (g : Int → Int) (r o : Int) {c : Int} (hc : c < 38) : giveF g r o c = g c := by
  unfold giveF
  rw [if_neg (by omega)]
theorem eq_give (e : eqv g h) (hm : g 0 ≤ 16) (r o : Int) : eqv (giveF g r o) (giveF h r o) := by
  have f : ∀ c : Int, c < 38 → giveF g r o c = g c := fun c hc => giveF_l g r o hc
  have f2 : ∀ c : Int, c < 38 → giveF h r o c = h c := fun c hc => giveF_l h r o hc
  refine ⟨⟨?_, ?_, ?_, ?_, ?_⟩, fun j h0 h1 => ?_⟩
  · rw [f 0 (by decide), f2 0 (by decide)]; exact e.1.1
  · rw [f 1 (by decide), f2 1 (by decide)]; exact e.1.2.1
  · rw [f 2 (by decide), f2 2 (by decide)]; exact e.1.2.2.1
  · rw [f 4 (by decide), f2 4 (by decide)]; exact e.1.2.2.2.1
  · rw [f 5 (by decide), f2 5 (by decide)]; exact e.1.2.2.2.2
  · rw [f 0 (by decide)] at h1
    rw [f _ (show 6 + j < 38 by omega), f2 _ (show 6 + j < 38 by omega), f _ (show 22 + j < 38 by omega), f2 _ (show 22 + j < 38 by omega), giveF_oo g r o h0 h1, giveF_oo h r o h0 (by rw [← e.1.1]; exact h1), eq_run e, (e.2 j h0 h1).2.2]
    exact ⟨(e.2 j h0 h1).1, (e.2 j h0 h1).2.1, rfl⟩
/-- one place of the six changed alike -/
theorem eq_uq (e : eqv g h) {c : Int} (h0 : 1 ≤ c) (h1 : c < 6) (x : Int) : eqv (uq g c x) (uq h c x) := by
  have key : ∀ b : Int, g b = h b → uq g c x b = uq h c x b := fun b hb => by unfold uq; split <;> first | rfl | exact hb
  refine ⟨⟨key 0 e.1.1, key 1 e.1.2.1, key 2 e.1.2.2.1, key 4 e.1.2.2.2.1, key 5 e.1.2.2.2.2⟩, fun j j0 j1 => ?_⟩
  rw [uq_ne _ _ (by omega)] at j1
  have := e.2 j j0 j1
  exact ⟨key _ this.1, key _ this.2.1, key _ this.2.2⟩
theorem eq_uq3 (e : eqv g h) (x y : Int) : eqv (uq g 3 x) (uq h 3 y) := by
  have k1 : ∀ b : Int, b ≠ 3 → g b = h b → uq g 3 x b = uq h 3 y b := fun b hb z => by rw [uq_ne _ _ hb, uq_ne _ _ hb]; exact z
  refine ⟨⟨k1 0 (by decide) e.1.1, k1 1 (by decide) e.1.2.1, k1 2 (by decide) e.1.2.2.1, k1 4 (by decide) e.1.2.2.2.1, k1 5 (by decide) e.1.2.2.2.2⟩, fun j j0 j1 => ?_⟩
  rw [uq_ne _ _ (by decide)] at j1
  have := e.2 j j0 j1
  exact ⟨k1 _ (by omega) this.1, k1 _ (by omega) this.2.1, k1 _ (by omega) this.2.2⟩
end
