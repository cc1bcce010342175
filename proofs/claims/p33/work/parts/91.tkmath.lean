/-! GIFTS AND TAKES: what they bring -/
section
variable {g h : Int → Int}
theorem fp5 (e : h 5 = g 5) (r : Int) : fpF h r = fpF g r := by
  unfold fpF
  exact sm_cong (fun p _ _ => by unfold fpE; rw [runF_congr e])
theorem runs5 (e0 : h 0 = g 0) (e : h 5 = g 5) : runsF h = runsF g := by
  unfold runsF
  rw [e0, e]
/-- owners are alike along a run -/
theorem own_run (hw : wf g) : ∀ p : Nat, (p : Int) < g 0 → g (38 + p) = g (38 + fpF g (runF g p)) := by
  intro p
  have hn := hw.1
  induction p with
  | zero =>
    intro hp
    have hr : fpF g (runF g ((0 : Nat) : Int)) = ((0 : Nat) : Int) := fpF_eq (by omega) (fun q hq => by omega) (Int.le_refl _)
    rw [hr]
  | succ p ih =>
    intro hp
    by_cases hb : (g 5).toNat.testBit (p + 1) = true
    · have hr : fpF g (runF g ((p + 1 : Nat) : Int)) = ((p + 1 : Nat) : Int) := by
        refine fpF_eq (by omega) (fun q hq => ?_) (Int.le_refl _)
        have h1 := runF_mono g (p := (q : Int)) (q := (p : Int)) (by omega) (by omega)
        have h2 := runF_s g p
        rw [hb, if_pos rfl] at h2
        omega
      rw [hr]
    · have hb2 : (g 5).toNat.testBit (p + 1) = false := by
        cases hh : (g 5).toNat.testBit (p + 1) with
        | false => rfl
        | true => exact absurd hh hb
      have h2 := runF_s g p
      rw [hb2] at h2
      have h3 : runF g ((p + 1 : Nat) : Int) = runF g p := by rw [h2]; simp
      have h4 := hw.2.2.2.2.2.2.2.2 ((p + 1 : Nat) : Int) (by omega) hp (by rw [show (((p + 1 : Nat) : Int)).toNat = p + 1 by omega]; exact hb2)
      rw [h4, h3, show ((p + 1 : Nat) : Int) - 1 = (p : Int) by omega]
      exact ih (by omega)
theorem own_runI (hw : wf g) {p r : Int} (h0 : 0 ≤ p) (h1 : p < g 0) (hr : runF g p = r) : g (38 + p) = g (38 + fpF g r) := by
  have := own_run hw p.toNat (by omega)
  rw [show ((p.toNat : Nat) : Int) = p by omega] at this
  rw [← hr]
  exact this
theorem giveG_F' {r o : Int} (h0 : 0 ≤ r) (h1 : r < runsF g) (ho : -1 ≤ o) (ho1 : o ≤ 1) : giveG g r o = giveF g r o := if_pos ⟨⟨h0, h1⟩, by omega⟩
theorem give_5 (r o : Int) : giveF g r o 5 = g 5 := giveF_l g r o (by decide)
theorem give_own (hw : wf g) {r o : Int} (h0 : 0 ≤ r) (h1 : r < runsF g) (ho : -1 ≤ o) (ho1 : o ≤ 1) : runsF (giveG g r o) = runsF g ∧ giveG g r o (38 + fpF (giveG g r o) r) = o := by
  rw [giveG_F' h0 h1 ho ho1]
  obtain ⟨f0, f1, f2, -⟩ := fpF_in hw h0 h1
  refine ⟨runs5 (n_give0 r o) (give_5 r o), ?_⟩
  rw [fp5 (give_5 r o)]
  unfold giveF
  rw [if_pos]
  refine ⟨by omega, by omega, ?_⟩
  rw [show 38 + fpF g r - 38 = fpF g r by omega]
  exact f2
theorem own_in (hw : wf g) {r : Int} (h0 : 0 ≤ r) (h1 : r < runsF g) : -1 ≤ g (38 + fpF g r) ∧ g (38 + fpF g r) ≤ 1 := by
  obtain ⟨f0, f1, f2, -⟩ := fpF_in hw h0 h1
  have := hw.1
  exact hw.2.2.2.2.2.2.2.1 _ f0 (by omega)
theorem give_same (hw : wf g) {r : Int} (h0 : 0 ≤ r) (h1 : r < runsF g) : giveG g r (g (38 + fpF g r)) = g := by
  have ho := own_in hw h0 h1
  rw [giveG_F' h0 h1 ho.1 ho.2]
  funext c
  unfold giveF
  split
  · next hc =>
    have := own_runI hw (p := c - 38) (by omega) (by omega) hc.2.2
    rw [show 38 + (c - 38) = c by omega] at this
    exact this.symm
  · rfl
theorem has_c (e : ∀ c : Int, c ≠ 2 → c ≠ 3 → h c = g c) (hw : wf g) (s k : Int) : hasF h s k = hasF g s k := by
  unfold hasF
  rw [e 0 (by decide) (by decide)]
  refine sm_cong (fun p p0 p1 => ?_)
  have hj := jatF_in hw p0 (show p < g 0 by have := hw.1; omega)
  have ej : jatF h p = jatF g p := by unfold jatF; rw [e 0 (by decide) (by decide), e 1 (by decide) (by decide)]
  unfold hasE valF
  rw [ej, e (38 + p) (by omega) (by omega), e (6 + jatF g p) (by omega) (by omega), e (22 + jatF g p) (by omega) (by omega), e 4 (by decide) (by decide)]
theorem gap_c (e : ∀ c : Int, c ≠ 2 → c ≠ 3 → h c = g c) (hw : wf g) : gapF h = gapF g := by
  unfold gapF
  exact sm_cong (fun k _ _ => by unfold gapE; rw [has_c e hw, has_c e hw])
/-- a take: who is on the move, how often it was refused, whose the run is, the gap -/
theorem take_y (hw : wf g) {r : Int} (h0 : 0 ≤ r) (h1 : r < runsF g) (hy : whyF g r = 0) : takeM g r 2 = 1 - g 2 ∧ takeM g r 3 = g 3 ∧ takeM g r (38 + fpF (takeM g r) r) = g 2 ∧ gapF (takeM g r) = gapF (giveG g r (g 2)) ∧ runsF (takeM g r) = runsF g := by
  have h2 := hw.2.2.1
  have e : takeM g r = takeF g r := if_pos hy
  have e5 : takeF g r 5 = g 5 := by unfold takeF; rw [uq_ne _ _ (by decide)]; exact give_5 r _
  rw [e]
  refine ⟨uq_eq _ _ _, ?_, ?_, ?_, runs5 (n_takeF r) e5⟩
  · unfold takeF; rw [uq_ne _ _ (by decide)]; exact giveF_l g r _ (by decide)
  · obtain ⟨f0, f1, f2, -⟩ := fpF_in hw h0 h1
    rw [fp5 e5]
    unfold takeF
    rw [uq_ne _ _ (by omega)]
    unfold giveF
    rw [if_pos]
    refine ⟨by omega, by omega, ?_⟩
    rw [show 38 + fpF g r - 38 = fpF g r by omega]
    exact f2
  · rw [giveG_F' h0 h1 (by omega) (by omega)]
    refine gap_c (fun c h2 h3 => ?_) ?_
    · unfold takeF; exact uq_ne _ _ h2
    · have := wf_giveG hw r (g 2)
      rwa [giveG_F' h0 h1 (by omega) (by omega)] at this
theorem take_n (hw : wf g) {r : Int} (h0 : 0 ≤ r) (h1 : r < runsF g) (hy : whyF g r ≠ 0) : takeM g r 2 = g 2 ∧ takeM g r 3 = g 3 + 1 ∧ takeM g r (38 + fpF (takeM g r) r) = g (38 + fpF g r) ∧ runsF (takeM g r) = runsF g := by
  have e : takeM g r = uq g 3 (g 3 + 1) := if_neg hy
  have e5 : uq g 3 (g 3 + 1) 5 = g 5 := uq_ne _ _ (by decide)
  obtain ⟨f0, f1, f2, -⟩ := fpF_in hw h0 h1
  rw [e]
  refine ⟨uq_ne _ _ (by decide), uq_eq _ _ _, ?_, runs5 (uq_ne _ _ (by decide)) e5⟩
  rw [fp5 e5]
  exact uq_ne _ _ (by omega)
theorem why_is (g : Int → Int) (r : Int) : (g (38 + fpF g r) = -1 → whyF g r = 0) ∧ (g (38 + fpF g r) ≠ -1 → g (38 + fpF g r) = g 2 → whyF g r = 2) ∧ (g (38 + fpF g r) ≠ -1 → g (38 + fpF g r) ≠ g 2 → whyF g r = 1) := by
  unfold whyF
  refine ⟨fun a => if_pos a, fun a b => by rw [if_neg a, if_pos b], fun a b => by rw [if_neg a, if_neg b]⟩
/-- the best run -/
theorem ck_is (g : Int → Int) (n : Nat) : ((ckG g n).1 = -1 ∧ ∀ r : Nat, r < n → whyF g r ≠ 0) ∨ ∃ b : Nat, b < n ∧ (ckG g n).1 = b ∧ whyF g b = 0 ∧ (ckG g n).2 = ckT g b ∧ ∀ r : Nat, r < n → whyF g r = 0 → ckT g b < ckT g r ∨ (ckT g b = ckT g r ∧ b ≤ r) := by
  induction n with
  | zero => exact Or.inl ⟨rfl, fun r hr => absurd hr (Nat.not_lt_zero _)⟩
  | succ n ih =>
    rw [ckG_s1, ckG_s2]
    by_cases hc : whyF g n = 0 ∧ ((ckG g n).1 = -1 ∨ ckT g n < (ckG g n).2)
    · rw [if_pos hc, if_pos hc]
      refine Or.inr ⟨n, by omega, rfl, hc.1, rfl, fun r hr hy => ?_⟩
      by_cases hrn : r = n
      · subst hrn; exact Or.inr ⟨rfl, Nat.le_refl _⟩
      · rcases ih with ⟨a, b⟩ | ⟨b, b1, b2, b3, b4, b5⟩
        · exact absurd hy (b r (by omega))
        · have h3 := b5 r (by omega) hy
          have h4 : ckT g n < ckT g b := by
            rcases hc.2 with z | z
            · omega
            · rw [b4] at z; exact z
          omega
    · rw [if_neg hc, if_neg hc]
      rcases ih with ⟨a, b⟩ | ⟨b, b1, b2, b3, b4, b5⟩
      · refine Or.inl ⟨a, fun r hr hy => ?_⟩
        by_cases hrn : r = n
        · subst hrn; exact hc ⟨hy, Or.inl a⟩
        · exact b r (by omega) hy
      · refine Or.inr ⟨b, by omega, b2, b3, b4, fun r hr hy => ?_⟩
        by_cases hrn : r = n
        · subst hrn
          have h4 : ¬ ckT g r < ckT g b := fun z => hc ⟨hy, Or.inr (by rw [b4]; exact z)⟩
          omega
        · exact b5 r (by omega) hy
theorem sm_nz {f : Int → Int} : ∀ {n : Nat}, (∀ p : Int, 0 ≤ p → p < n → 0 ≤ f p) → ∀ q : Nat, q < n → f q ≤ sm f n
  | 0, _, q, hq => absurd hq (Nat.not_lt_zero _)
  | n + 1, h, q, hq => by
    have h0 := sm_le (f := fun _ => 0) (g := f) (n := n) (fun p a b => h p a (by omega))
    rw [sm_const] at h0
    have h1 := h n (by omega) (by omega)
    rw [sm_s]
    by_cases e : q = n
    · subst e; omega
    · have := sm_nz (f := f) (n := n) (fun p a b => h p a (by omega)) q (by omega)
      omega
theorem nob_in (g : Int → Int) (p : Int) : 0 ≤ nobE g p ∧ nobE g p ≤ 1 := by unfold nobE; split <;> omega
theorem nob_0 (hm : 0 ≤ g 0) (h0 : nobF g = 0) {p : Int} (p0 : 0 ≤ p) (p1 : p < g 0) : g (38 + p) ≠ -1 := fun z => by
  have h1 := sm_nz (f := nobE g) (n := (g 0).toNat) (fun p _ _ => (nob_in g p).1) p.toNat (by omega)
  have h2 : nobE g ((p.toNat : Nat) : Int) = 1 := by
    rw [show ((p.toNat : Nat) : Int) = p by omega]
    exact if_pos z
  unfold nobF at h0
  omega
theorem nob_n (hall : ∀ p : Int, 0 ≤ p → p < g 0 → g (38 + p) ≠ -1) : nobF g = 0 := by
  unfold nobF
  have h := sm_cong (f := nobE g) (g := fun _ => 0) (n := (g 0).toNat) (fun p p0 p1 => if_neg (hall p p0 (by omega)))
  rw [h, sm_const]
  omega
theorem best_nob (hw : wf g) (hn : 1 ≤ g 0) : (ckG g (runsF g).toNat).1 = -1 ↔ nobF g = 0 := by
  have hr := runsF_in g
  constructor
  · intro hb
    refine nob_n (fun p p0 p1 z => ?_)
    rcases ck_is g (runsF g).toNat with ⟨_, b⟩ | ⟨b, b1, b2, _⟩
    · have h1 := runF_in g (p := p) (by have := hw.1; omega)
      have h2 := runF_lt (g := g) (by omega) (p := p) (by have := hw.1; omega)
      have h3 := b (runF g p).toNat (by omega)
      rw [show (((runF g p).toNat : Nat) : Int) = runF g p by omega] at h3
      exact h3 ((why_is g (runF g p)).1 ((own_runI hw p0 p1 rfl).symm.trans z))
    · omega
  · intro h0
    rcases ck_is g (runsF g).toNat with ⟨a, _⟩ | ⟨b, b1, b2, b3, _⟩
    · exact a
    · exfalso
      obtain ⟨f0, f1, f2, -⟩ := fpF_in hw (r := (b : Int)) (by omega) (by omega)
      have h4 := nob_0 hw.1.1 h0 f0 f1
      have h5 := why_is g b
      by_cases e : g (38 + fpF g b) = g 2
      · have := h5.2.1 h4 e; omega
      · have := h5.2.2 h4 e; omega
theorem best_run (hw : wf g) {r bs : Int} (h0 : 0 ≤ r) (h1 : r < runsF g) (hb : (ckG g (runsF g).toNat).1 = bs) (hne : bs ≠ -1) : (0 ≤ bs ∧ bs < runsF g) ∧ g (38 + fpF g bs) = -1 ∧ (whyF g r = 0 → gapF (giveG g bs (g 2)) < gapF (giveG g r (g 2)) ∨ (gapF (giveG g bs (g 2)) = gapF (giveG g r (g 2)) ∧ bs ≤ r)) := by
  rcases ck_is g (runsF g).toNat with ⟨a, _⟩ | ⟨b, b1, b2, b3, _, b5⟩
  · omega
  · have e : bs = b := by omega
    subst e
    refine ⟨by omega, ?_, fun hy => ?_⟩
    · by_cases z : g (38 + fpF g b) = -1
      · exact z
      · exfalso
        have h5 := why_is g b
        by_cases e : g (38 + fpF g b) = g 2
        · have := h5.2.1 z e; omega
        · have := h5.2.2 z e; omega
    · have h2 := b5 r.toNat (by omega) (by rw [show ((r.toNat : Nat) : Int) = r by omega]; exact hy)
      unfold ckT at h2
      rw [show ((r.toNat : Nat) : Int) = r by omega] at h2
      omega
end
