/-! the class's ways to go through what the reference goes through -/
theorem eqk_free (g : Int → Int) (hm : g 0 ≤ 16) : eqk g (freeF g) := by
  refine ⟨⟨(freeF_lo g (by decide) (by decide)).symm, (freeF_lo g (by decide) (by decide)).symm, (freeF_lo g (by decide) (by decide)).symm, (freeF_lo g (by decide) (by decide)).symm⟩, fun j h0 h1 => ?_⟩
  rw [freeF_lo g (by omega) (by omega), freeF_lo g (by omega) (by omega)]
  exact ⟨rfl, rfl⟩
theorem eqk_uq1 {g h : Int → Int} (e : eqk g h) (x : Int) : eqk (uq g 1 x) (uq h 1 x) := by
  refine ⟨⟨?_, ?_, ?_, ?_⟩, fun i h0 h1 => ?_⟩
  · rw [uq_ne _ _ (by decide), uq_ne _ _ (by decide)]; exact e.1.1
  · rw [uq_eq, uq_eq]
  · rw [uq_ne _ _ (by decide), uq_ne _ _ (by decide)]; exact e.1.2.2.1
  · rw [uq_ne _ _ (by decide), uq_ne _ _ (by decide)]; exact e.1.2.2.2
  · rw [uq_ne _ _ (by decide)] at h1
    rw [uq_ne _ _ (show 6 + i ≠ 1 by omega), uq_ne _ _ (show 6 + i ≠ 1 by omega), uq_ne _ _ (show 22 + i ≠ 1 by omega), uq_ne _ _ (show 22 + i ≠ 1 by omega)]
    exact e.2 i h0 h1
theorem eqk_tr {g h k : Int → Int} (e : eqk g h) (f : eqk h k) : eqk g k := ⟨⟨e.1.1.trans f.1.1, e.1.2.1.trans f.1.2.1, e.1.2.2.1.trans f.1.2.2.1, e.1.2.2.2.trans f.1.2.2.2⟩, fun j h0 h1 => by
  have a := e.2 j h0 h1
  have b := f.2 j h0 (by rw [← e.1.1]; exact h1)
  exact ⟨a.1.trans b.1, a.2.trans b.2⟩⟩
theorem eqk_bb {g h : Int → Int} (e : eqv g h) (hw : wf g) (x : Int) : eqk (uq g 1 x) (brkF h x) := by
  have hm : h 0 ≤ 16 := by rw [← e.1.1]; exact hw.1.2
  exact eqk_tr (eqk_uq1 (eq_k e) x) (eqk_free _ (by rw [uq_ne _ _ (by decide)]; exact hm))
theorem eq_bb {g h : Int → Int} (e : eqv g h) (hw : wf g) (hv : wf h) : ∀ n : Nat, (n : Int) ≤ g 0 → (bkG g n).1 = (bbG h n).1 ∧ ((bbG h n).1 = -1 → (bkG g n).2 = 6) ∧ ((bbG h n).1 ≠ -1 → (bkG g n).2 = (bbG h n).2 - 1)
  | 0, _ => ⟨rfl, fun _ => rfl, fun z => absurd rfl z⟩
  | n + 1, hn => by
    obtain ⟨a, b, d⟩ := eq_bb e hw hv n (by omega)
    have ef : fewF (uq g 1 n) = fewF (brkF h n) := eq_few (eqk_bb e hw n) (wf_brk1 hw (by omega) (Or.inl (by omega))) (wf_brk hv (by omega) (by rw [← e.1.1]; omega))
    have hfi := isFe_in (isFe_ex (brkF h n))
    have hv1 : fbV (uq g 1 n) (bkG g n).2 = if fewF (brkF h n) ≠ -1 ∧ fewF (brkF h n) ≤ (bkG g n).2 then fewF (brkF h n) else -1 := by unfold fbV; rw [ef]
    rw [bkG_s1, bkG_s2, bbG_s1, bbG_s2, hv1]
    by_cases c : fewF (brkF h n) ≠ -1 ∧ ((bbG h n).1 = -1 ∨ fewF (brkF h n) < (bbG h n).2)
    · have c2 : fewF (brkF h n) ≠ -1 ∧ fewF (brkF h n) ≤ (bkG g n).2 := by
        by_cases z : (bbG h n).1 = -1
        · have := b z; exact ⟨c.1, by omega⟩
        · have := d z; exact ⟨c.1, by omega⟩
      rw [if_pos c2, if_pos c, if_pos c, if_neg c.1, if_neg c.1]
      exact ⟨rfl, fun z => by omega, fun _ => rfl⟩
    · have c2 : ¬ (fewF (brkF h n) ≠ -1 ∧ fewF (brkF h n) ≤ (bkG g n).2) := by
        rintro ⟨x, y⟩
        by_cases z : (bbG h n).1 = -1
        · exact c ⟨x, Or.inl z⟩
        · have := d z; exact c ⟨x, Or.inr (by omega)⟩
      rw [if_neg c2, if_neg c, if_neg c, if_pos rfl, if_pos rfl]
      exact ⟨a, b, d⟩
theorem eq_br {g h : Int → Int} (e : eqv g h) (hw : wf g) : ∀ n : Nat, (n : Int) ≤ runsF g → ckG g n = brG h n
  | 0, _ => rfl
  | n + 1, hn => by
    have ih := eq_br e hw n (by omega)
    have hm : g 2 = 0 ∨ g 2 = 1 := by have := hw.2.2.1; omega
    have ey := eq_why e hw (r := n) (by omega) (by omega)
    have et : ckT g n = gapF (giveF h n (h 2)) := by
      unfold ckT
      rw [giveG_F ⟨⟨by omega, by omega⟩, by omega⟩, ← e.1.2.2.1]
      exact eq_gap (eq_give e hw.1.2 _ _) (wf_give hw n (by omega))
    have hg := (gapF_in (wf_give hw (n : Int) (o := g 2) (by omega))).1
    have ec : (whyF g n = 0 ∧ ((ckG g n).1 = -1 ∨ ckT g n < (ckG g n).2)) ↔ (brT h n ≠ -1 ∧ ((brG h n).1 = -1 ∨ brT h n < (brG h n).2)) := by
      rw [ih, et, ey]
      unfold brT
      have h0 : 0 ≤ gapF (giveF h n (h 2)) := by
        rw [← et]; unfold ckT; rw [giveG_F ⟨⟨by omega, by omega⟩, by omega⟩]; exact hg
      by_cases hy : whyF h n = 0
      · rw [if_pos hy]
        constructor
        · rintro ⟨_, b⟩; exact ⟨by omega, b⟩
        · rintro ⟨_, b⟩; exact ⟨hy, b⟩
      · rw [if_neg hy]
        constructor
        · rintro ⟨a, _⟩; exact absurd a hy
        · rintro ⟨a, _⟩; exact absurd rfl a
    rw [ckG, brG]
    by_cases c : whyF g n = 0 ∧ ((ckG g n).1 = -1 ∨ ckT g n < (ckG g n).2)
    · rw [if_pos c, if_pos (ec.mp c), et]
      unfold brT
      rw [if_pos (by rw [← ey]; exact c.1)]
    · rw [if_neg c, if_neg (fun z => c (ec.mpr z))]
      exact ih
/-- the cuts of divide, one by one -/
theorem lsT_ct {g : Int → Int} (t : Int → Int) : ∀ n : Nat, (∀ i : Nat, i < n → 1 ≤ t i ∧ t i < g 0) → lsT g t n = uq (freeF g) 5 ((ctN t n : Nat) : Int)
  | 0, _ => by
    show freeF g = uq (freeF g) 5 0
    exact (uq_self (freeF g) 5).symm
  | n + 1, hn => by
    have ih := lsT_ct t n (fun i hi => hn i (by omega))
    have h1 := hn n (Nat.lt_succ_self n)
    rw [lsT, ih, cutG_F (by rw [uq_ne _ _ (by decide), freeF_lo g (by decide) (by decide)]; exact h1), cutF, if_pos rfl, cutOnF, uq_eq, uq_uq]
    rfl
theorem eqs_dv {g h : Int → Int} (e : eqs g h) (hw : wf g) (hv : wf h) (h0 : 0 ≤ fewF g) : eqs (dealG (lsT g (wyF g) (fewF g).toNat) 0) (dvF h) := by
  have hm : g 0 ≤ 16 := hw.1.2
  have hc : ∀ i : Nat, i < (fewF g).toNat → 1 ≤ wyF g i ∧ wyF g i < g 0 := fun i hi => (wyF_in hw (by omega) (by omega)).1
  rw [dealG_F (Or.inl rfl), lsT_ct _ _ hc]
  unfold dvF
  rw [← eq_few (eq_k e.1) hw hv, ← eq_wy (eq_k e.1) hw hv]
  have k0 := eqk_tr (eqk_sy (eqk_free g hm)) (eq_k e.1)
  have kk : eqk (uq (freeF g) 5 ((ctN (wyF g) (fewF g).toNat : Nat) : Int)) (uq h 5 ((ctN (wyF g) (fewF g).toNat : Nat) : Int)) := by
    refine ⟨⟨?_, ?_, ?_, ?_⟩, fun i i0 i1 => ?_⟩
    · rw [uq_ne _ _ (by decide), uq_ne _ _ (by decide)]; exact k0.1.1
    · rw [uq_ne _ _ (by decide), uq_ne _ _ (by decide)]; exact k0.1.2.1
    · rw [uq_ne _ _ (by decide), uq_ne _ _ (by decide)]; exact k0.1.2.2.1
    · rw [uq_ne _ _ (by decide), uq_ne _ _ (by decide)]; exact k0.1.2.2.2
    · rw [uq_ne _ _ (by decide)] at i1
      rw [uq_ne _ _ (show 6 + i ≠ 5 by omega), uq_ne _ _ (show 6 + i ≠ 5 by omega), uq_ne _ _ (show 22 + i ≠ 5 by omega), uq_ne _ _ (show 22 + i ≠ 5 by omega)]
      exact k0.2 i i0 i1
  refine ⟨eq_dealk kk (by rw [uq_ne _ _ (by decide), freeF_lo g (by decide) (by decide)]; exact hm) (by rw [uq_eq, uq_eq]) 0, ?_⟩
  rw [fr3_deal, fr3_deal, uq_ne _ _ (by decide), uq_ne _ _ (by decide), fr3_free]
  exact e.2
/-- a new one -/
theorem eqs_new (g : Int → Int) : eqs (newF g) newM := by
  refine ⟨⟨⟨rfl, rfl, rfl, rfl, rfl⟩, fun j h0 h1 => ?_⟩, rfl⟩
  have h2 : j < 0 := h1
  omega
theorem kG_3 {g : Int → Int} (hw : wf g) (c : Int) (t : Int → Int) (z q : Int) : kG c t z q g 3 = g 3 := by
  unfold kG addG brkG takeG cutG giveG dealG setG
  (repeat' split) <;> first | rfl | exact fr3_add hw.1.1 _ _ | exact fr3_brk g _ | exact fr3_take g _ | exact fr3_cut g _ _ | exact fr3_give g _ _ | exact fr3_deal g _ | exact uq_ne _ _ (by decide) | exact fr3_rev g
theorem rtG_3 (t : Int → Int) (z : Int) : ∀ (n : Nat) (p : Int) {g : Int → Int}, wf g → rtG t z n p g 3 = g 3
  | 0, _, _, _ => rfl
  | n + 1, p, g, hw => by
    rw [rtG]
    split
    · rw [rtG_3 t z n _ (wf_kG hw _ _ _ _), kG_3 hw]
    · rfl
theorem wf_rtG (t : Int → Int) (z : Int) : ∀ (n : Nat) (p : Int) {g : Int → Int}, wf g → wf (rtG t z n p g)
  | 0, _, _, hw => hw
  | n + 1, p, g, hw => by
    rw [rtG]
    split
    · exact wf_rtG t z n _ (wf_kG hw _ _ _ _)
    · exact hw
theorem eqs_ld (t : Int → Int) (z : Int) (g : Int → Int) (h : errF t z = -1) : eqs (rtG t z 120 1 (newF g)) (ldG t z) ∧ rtB t z 120 1 (newF g) = ldB t z := by
  have hr : rtE t z 120 1 = -1 := by
    by_cases c : z = 0 ∨ t 0 ≠ 78
    · have h2 : errF t z = 0 := if_pos c
      omega
    · have h2 : errF t z = rtE t z 120 1 := if_neg c
      omega
  have h1 := eq_rt t z 120 1 (eqs_new g).1 (wf_new g) hr (by decide)
  exact ⟨⟨h1.1, by rw [ldG, rtG_3 t z 120 1 (wf_new g), rtG_3 t z 120 1 wf_newM]; rfl⟩, h1.2⟩
