/-! DIVISIONS: what they bring -/
section
variable {g h : Int → Int}
theorem bb_is (g : Int → Int) (n : Nat) : ((bbG g n).1 = -1 ∧ ∀ j : Nat, j < n → fewF (brkF g j) = -1) ∨ ∃ b : Nat, b < n ∧ (bbG g n).1 = b ∧ fewF (brkF g b) ≠ -1 ∧ (bbG g n).2 = fewF (brkF g b) ∧ ∀ j : Nat, j < n → fewF (brkF g j) ≠ -1 → fewF (brkF g b) < fewF (brkF g j) ∨ (fewF (brkF g b) = fewF (brkF g j) ∧ b ≤ j) := by
  induction n with
  | zero => exact Or.inl ⟨rfl, fun r hr => absurd hr (Nat.not_lt_zero _)⟩
  | succ n ih =>
    rw [bbG_s1, bbG_s2]
    by_cases hc : fewF (brkF g n) ≠ -1 ∧ ((bbG g n).1 = -1 ∨ fewF (brkF g n) < (bbG g n).2)
    · rw [if_pos hc, if_pos hc]
      refine Or.inr ⟨n, by omega, rfl, hc.1, rfl, fun r hr hy => ?_⟩
      by_cases hrn : r = n
      · subst hrn; exact Or.inr ⟨rfl, Nat.le_refl _⟩
      · rcases ih with ⟨a, b⟩ | ⟨b, b1, b2, b3, b4, b5⟩
        · exact absurd (b r (by omega)) hy
        · have h3 := b5 r (by omega) hy
          have h4 : fewF (brkF g n) < fewF (brkF g b) := by
            rcases hc.2 with z | z
            · omega
            · rw [b4] at z; exact z
          omega
    · rw [if_neg hc, if_neg hc]
      rcases ih with ⟨a, b⟩ | ⟨b, b1, b2, b3, b4, b5⟩
      · refine Or.inl ⟨a, fun r hr => ?_⟩
        by_cases hrn : r = n
        · subst hrn
          by_cases z : fewF (brkF g r) = -1
          · exact z
          · exact absurd ⟨z, Or.inl a⟩ hc
        · exact b r (by omega)
      · refine Or.inr ⟨b, by omega, b2, b3, b4, fun r hr hy => ?_⟩
        by_cases hrn : r = n
        · subst hrn
          have h4 : ¬ fewF (brkF g r) < fewF (brkF g b) := fun z => hc ⟨hy, Or.inr (by rw [b4]; exact z)⟩
          omega
        · exact b5 r (by omega) hy
theorem eqk_b1 (hw : wf g) : eqk g (brkF g (g 1)) := ⟨⟨rfl, rfl, rfl, rfl⟩, fun j h0 h1 => by
  have := hw.1
  unfold brkF
  rw [freeF_lo _ (by omega) (by omega), freeF_lo _ (by omega) (by omega), uq_ne _ _ (by omega), uq_ne _ _ (by omega)]
  exact ⟨rfl, rfl⟩⟩
theorem eqk_b2 (hw : wf g) (b o : Int) : eqk (brkF (brkF g b) o) (brkF g o) := ⟨⟨rfl, rfl, rfl, rfl⟩, fun j h0 h1 => by
  have h2 : j < g 0 := h1
  have := hw.1
  unfold brkF
  rw [freeF_lo _ (by omega) (by omega), freeF_lo _ (by omega) (by omega), uq_ne _ _ (by omega), uq_ne _ _ (by omega), freeF_lo _ (by omega) (by omega), freeF_lo _ (by omega) (by omega), uq_ne _ _ (by omega), uq_ne _ _ (by omega), freeF_lo _ (by omega) (by omega), freeF_lo _ (by omega) (by omega), uq_ne _ _ (by omega), uq_ne _ _ (by omega)]
  exact ⟨rfl, rfl⟩⟩
/-- the best break -/
theorem best_brk (hw : wf g) (hn : 1 ≤ g 0) {bs : Int} (hb : (bkG g (g 0).toNat).1 = bs) : (bs = -1 → fewF g = -1) ∧ (bs ≠ -1 → (0 ≤ bs ∧ bs < g 0) ∧ fewF (brkG g bs) ≠ -1 ∧ (fewF g ≠ -1 → fewF (brkG g bs) ≤ fewF g) ∧ ∀ o : Int, 0 ≤ o → o < g 0 → fewF (brkG (brkG g bs) o) = -1 ∨ fewF (brkG g bs) < fewF (brkG (brkG g bs) o) ∨ (fewF (brkG g bs) = fewF (brkG (brkG g bs) o) ∧ bs ≤ o)) := by
  have e1 := (eq_bb (eq_rf g) hw hw (g 0).toNat (by omega)).1
  rw [hb] at e1
  have hbr := hw.2.1
  have ef : fewF g = fewF (brkF g (g 1)) := eq_few (eqk_b1 hw) hw (wf_brk hw hbr.1 (by omega))
  have hone : ((g 1).toNat : Int) = g 1 := by omega
  rcases bb_is g (g 0).toNat with ⟨a, b⟩ | ⟨b, b1, b2, b3, _, b5⟩
  · refine ⟨fun _ => ?_, fun z => absurd (e1.trans a) z⟩
    have := b (g 1).toNat (by omega)
    rw [hone] at this
    rw [ef]; exact this
  · have eb : bs = b := e1.trans b2
    subst eb
    refine ⟨fun z => by omega, fun _ => ?_⟩
    have eB : brkG g (b : Int) = brkF g b := if_pos ⟨by omega, by omega⟩
    have wB := wf_brk hw (show (0 : Int) ≤ (b : Int) by omega) (show (b : Int) < g 0 by omega)
    rw [eB]
    refine ⟨by omega, b3, fun z => ?_, fun o o0 o1 => ?_⟩
    · have h2 := b5 (g 1).toNat (by omega) (by rw [hone, ← ef]; exact z)
      rw [hone, ← ef] at h2
      omega
    · have e0 : brkF g b 0 = g 0 := rfl
      have eO : brkG (brkF g b) o = brkF (brkF g b) o := if_pos ⟨o0, by rw [e0]; exact o1⟩
      have e2 : fewF (brkF (brkF g b) o) = fewF (brkF g o) := eq_few (eqk_b2 hw b o) (wf_brk wB o0 (by rw [e0]; exact o1)) (wf_brk hw o0 o1)
      rw [eO, e2]
      by_cases z : fewF (brkF g o) = -1
      · exact Or.inl z
      · have h2 := b5 o.toNat (by omega) (by rw [show ((o.toNat : Nat) : Int) = o by omega]; exact z)
        rw [show ((o.toNat : Nat) : Int) = o by omega] at h2
        omega
/-- what both have together -/
theorem hasE_sum (hw : wf g) (k : Int) {p : Int} (p0 : 0 ≤ p) (p1 : p < g 0) : (hasE g 0 k p + hasE g 1 k p ≤ ahE g k p ∧ 0 ≤ hasE g 0 k p ∧ 0 ≤ hasE g 1 k p) ∧ (g (38 + p) ≠ -1 → hasE g 0 k p + hasE g 1 k p = ahE g k p) := by
  have ho := hw.2.2.2.2.2.2.2.1 p p0 (by have := hw.1; omega)
  have ha := ahE_in hw k p0 p1
  unfold hasE
  unfold ahE at ha ⊢
  by_cases hk : g (6 + jatF g p) = k
  · rw [if_pos hk] at ha ⊢
    rcases (show g (38 + p) = -1 ∨ g (38 + p) = 0 ∨ g (38 + p) = 1 by omega) with z | z | z
    · rw [if_neg (by omega), if_neg (by omega)]
      exact ⟨⟨by omega, by omega, by omega⟩, fun y => absurd z y⟩
    · rw [if_pos ⟨z, hk⟩, if_neg (by omega)]
      exact ⟨⟨by omega, by omega, by omega⟩, fun _ => by omega⟩
    · rw [if_neg (by omega), if_pos ⟨z, hk⟩]
      exact ⟨⟨by omega, by omega, by omega⟩, fun _ => by omega⟩
  · rw [if_neg hk]
    rw [if_neg (fun y => hk y.2), if_neg (fun y => hk y.2)]
    exact ⟨⟨by omega, by omega, by omega⟩, fun _ => by omega⟩
theorem has_sum (hw : wf g) (k : Int) : (hasF g 0 k + hasF g 1 k ≤ ahF g k (g 0).toNat ∧ 0 ≤ hasF g 0 k ∧ 0 ≤ hasF g 1 k) ∧ ((∀ p : Int, 0 ≤ p → p < g 0 → g (38 + p) ≠ -1) → hasF g 0 k + hasF g 1 k = ahF g k (g 0).toNat) := by
  have hn := hw.1
  unfold hasF ahF
  rw [← sm_add]
  refine ⟨⟨sm_le (fun p p0 p1 => (hasE_sum hw k p0 (by omega)).1.1), ?_, ?_⟩, fun ha => sm_cong (fun p p0 p1 => (hasE_sum hw k p0 (by omega)).2 (ha p p0 (by omega)))⟩
  · have := sm_le (f := fun _ => 0) (g := hasE g 0 k) (n := (g 0).toNat) (fun p p0 p1 => (hasE_sum hw k p0 (by omega)).1.2.1)
    rwa [sm_const, Int.mul_zero] at this
  · have := sm_le (f := fun _ => 0) (g := hasE g 1 k) (n := (g 0).toNat) (fun p p0 p1 => (hasE_sum hw k p0 (by omega)).1.2.2)
    rwa [sm_const, Int.mul_zero] at this
theorem wy_good (hw : wf g) (h : 0 ≤ fewF g) : goodW g (fewF g).toNat (wyF g) := by
  have hl := wyF_lex hw h
  rw [goodW_iff, show (((fewF g).toNat : Nat) : Int) = fewF g by omega]
  exact ⟨hl.1, hl.2.1⟩
/-- a string dealt after cuts that are good for it -/
theorem deal_good (hw : wf g) (hn : 1 ≤ g 0) {c : Nat} {T : Int → Int} (hg : goodW g c T) (hc : c ≤ 6) {D : Int → Int} (hD : dealG (lsT g T c) 0 = D) : wf D ∧ D 0 = g 0 ∧ nobF D = 0 ∧ gapF D = 0 ∧ (cn (D 5).toNat 16 : Int) = c ∧ runsF D = c + 1 ∧ D (38 + fpF D 0) = 0 ∧ (2 ≤ c → fpF D 2 = T 1) := by
  have hm := hw.1
  have hp := hg.1
  have hat : ∀ i : Nat, i < c → 1 ≤ T i ∧ T i < g 0 := fun i hi => preW_at hp hm.1 hi
  have e1 : lsT g T c = uq (freeF g) 5 ((ctN T c : Nat) : Int) := lsT_ct T c hat
  have wD : wf D := by rw [← hD]; exact wf_dealG (wf_lsT hw T c) 0
  obtain ⟨L, hL⟩ : ∃ z : Int → Int, uq (freeF g) 5 ((ctN T c : Nat) : Int) = z := ⟨_, rfl⟩
  have eD : D = dealF L 0 := by rw [← hD, e1, hL]; exact if_pos (Or.inl rfl)
  have L5 : L 5 = ((ctN T c : Nat) : Int) := by rw [← hL]; exact uq_eq _ _ _
  have L0 : L 0 = g 0 := by rw [← hL]; exact uq_ne _ _ (by decide)
  have Lc : ∀ b : Int, b < 38 → b ≠ 5 → L b = g b := fun b h1 h2 => by rw [← hL, uq_ne _ _ h2, freeF_lo _ h1 h2]
  have D0 : D 0 = g 0 := by rw [eD, dealF_l _ _ (by decide)]; exact L0
  have D5 : D 5 = ((ctN T c : Nat) : Int) := by rw [eD, dealF_l _ _ (by decide)]; exact L5
  have Dc : ∀ b : Int, b < 38 → b ≠ 5 → D b = g b := fun b h1 h2 => by rw [eD, dealF_l _ _ h1]; exact Lc b h1 h2
  have hrun : ∀ p : Int, runF D p = cn (ctN T c) (p.toNat + 1) := fun p => by unfold runF; rw [D5]; rfl
  have hrunL : ∀ p : Int, runF L p = cn (ctN T c) (p.toNat + 1) := fun p => by unfold runF; rw [L5]; rfl
  have Do : ∀ p : Int, 0 ≤ p → p < g 0 → D (38 + p) = (cn (ctN T c) (p.toNat + 1) : Int) % 2 := fun p p0 p1 => by
    rw [eD, dealF_oo L 0 p0 (by rw [L0]; exact p1), hrunL, Int.zero_add]
  have hl := preW_lst hp hm.1
  have hln : c = 0 ∨ lst T c < g 0 := by
    by_cases z : c = 0
    · exact Or.inl z
    · refine Or.inr ?_
      have := hat (c - 1) (by omega)
      rw [show c = (c - 1) + 1 by omega, lst_s]
      exact this.2
  have hl15 : lst T c ≤ 15 := by
    rcases hln with z | z
    · rw [z, lst_0]; decide
    · omega
  have hcn : cn (ctN T c) 16 = c := cn_ct hm.1 c hp c (Nat.le_refl _) 15 hl15 (fun z => absurd z (Nat.lt_irrefl c))
  have hnb : ∀ p : Int, 0 ≤ p → p < D 0 → D (38 + p) ≠ -1 := fun p p0 p1 => by
    rw [Do p p0 (by rw [← D0]; exact p1)]; omega
  have ek : eqk g D := ⟨⟨(D0).symm, (Dc 1 (by decide) (by decide)).symm, (Dc 2 (by decide) (by decide)).symm, (Dc 4 (by decide) (by decide)).symm⟩, fun j j0 j1 => ⟨(Dc _ (by omega) (by omega)).symm, (Dc _ (by omega) (by omega)).symm⟩⟩
  have ej : ∀ p : Int, jatF D p = jatF g p := fun p => (eq_jat ek p).symm
  have h0k : ∀ k : Int, hasF D 0 k = fsE g c T k := fun k => by
    rw [fsE_ev hw hp k]
    unfold hasF
    rw [D0]
    refine sm_cong (fun p p0 p1 => ?_)
    have hj := jatF_in hw p0 (show p < g 0 by omega)
    unfold hasE evE ahE
    rw [ej, Do p p0 (by omega), ← eq_val ek hj.1 hj.2, ← (ek.2 _ hj.1 hj.2).1]
    by_cases z : cn (ctN T c) (p.toNat + 1) % 2 = 0
    · rw [if_pos z]
      by_cases zk : g (6 + jatF g p) = k
      · rw [if_pos ⟨by omega, zk⟩, if_pos zk]
      · rw [if_neg (fun y => zk y.2), if_neg zk]
    · rw [if_neg z, if_neg (fun y => z (by have := y.1; omega))]
  have hgap : gapF D = 0 := by
    have hz := gapS_0.mp hg.2
    unfold gapF
    have h9 := sm_cong (f := gapE D) (g := fun _ => 0) (n := 4) (fun k k0 k1 => by
      have h2 := hz k k0 (by omega)
      have h3 := (has_sum wD k).2 hnb
      rw [D0, ← eq_ah ek hw k _ (by omega)] at h3
      have h4 := h0k k
      unfold gapE absI
      split <;> omega)
    rw [h9, sm_const]
    omega
  have hru : runsF D = c + 1 := by
    unfold runsF
    rw [D0, if_neg (by omega), D5, show (((ctN T c : Nat) : Int)).toNat = ctN T c from rfl, hcn]
  refine ⟨wD, D0, nob_n hnb, hgap, by rw [D5, show (((ctN T c : Nat) : Int)).toNat = ctN T c from rfl, hcn], hru, ?_, fun h2 => ?_⟩
  · have hf : fpF D 0 = ((0 : Nat) : Int) := fpF_eq (by omega) (fun q hq => absurd hq (Nat.not_lt_zero q)) (by rw [hrun]; omega)
    have h1 : cn (ctN T c) (0 + 1) = 0 := cn_ct hm.1 c hp 0 (Nat.zero_le _) 0 (by rw [lst_0]; decide) (fun z => by have := (hat 0 z).1; omega)
    rw [hf, Do _ (by omega) (by omega), show (((0 : Nat) : Int)).toNat = 0 from rfl, h1]
    rfl
  · have t1 := hat 1 (by omega)
    have t0 := hat 0 (by omega)
    have t01 := (hp 1 (by omega)).1
    rw [lst_s] at t01
    have hT1 : T ((1 : Nat) : Int) = T 1 := rfl
    have hT0 : T ((0 : Nat) : Int) = T 0 := rfl
    rw [hT1] at t1 t01
    rw [hT0] at t0 t01
    have hf : fpF D 2 = (((T 1).toNat : Nat) : Int) := by
      refine fpF_eq (by omega) (fun q hq => ?_) ?_
      · have h3 : cn (ctN T c) ((T 1).toNat - 1 + 1) = 1 := cn_ct hm.1 c hp 1 (by omega) ((T 1).toNat - 1) (by rw [lst_s, hT0]; omega) (fun _ => by rw [hT1]; omega)
        have h4 := cn_mono (ctN T c) (show q + 1 ≤ (T 1).toNat - 1 + 1 by omega)
        rw [hrun, show (((q : Nat) : Int)).toNat = q from rfl]
        omega
      · have h3 : cn (ctN T c) ((T 1).toNat + 1) = 2 := cn_ct hm.1 c hp 2 h2 (T 1).toNat (by rw [lst_s, hT1]; omega) (fun z => by
          have := (hp 2 z).1
          rw [lst_s, hT1] at this
          omega)
        rw [hrun, show ((((T 1).toNat : Nat) : Int)).toNat = (T 1).toNat from rfl, h3]
        omega
    rw [hf]
    omega
theorem few_in (g : Int → Int) : -1 ≤ fewF g ∧ fewF g ≤ 6 := isFe_in (isFe_ex g)
theorem few_n0 (hw : wf g) (hn : 1 ≤ g 0) : fewF g ≠ 0 := fun z => by
  have hg := wy_good hw (by omega)
  rw [z] at hg
  obtain ⟨k, hk, hv⟩ := some_val hw (by omega)
  have h1 := gapS_0.mp hg.2 k hk.1 hk.2
  have h2 : fsE g (Int.toNat 0) (wyF g) k = ahF g k (g 0).toNat := by
    show wrF g (fun k => fsP g k (wyF g) 0) 0 0 (g 0) k = _
    unfold wrF
    rw [if_pos (by decide)]
    show 0 + ahF g k (g 0).toNat - 0 = _
    omega
  omega
end
theorem un_2 (P : PT) (G H : Int → Int) (h : WF0 P) : pG (pUndo (pUndo (pPush (pPush P G) H))) = pG P := by
  obtain ⟨a, b, c, d, e, f⟩ := h
  have hN : 0 ≤ hxN (pN P) ∧ hxN (pN P) < 14 := by unfold hxN; split <;> omega
  have e1 : hxL (hxN (hxN (pN P))) = hxN (pN P) := by unfold hxL hxN; split <;> split <;> split <;> omega
  have e2 : hxL (hxN (pN P)) = pN P := by unfold hxL hxN; split <;> split <;> omega
  show (if 2 + (hxL (hxL (hxN (hxN (pN P))))).toNat = 2 + (hxN (pN P)).toNat then G else if 2 + (hxL (hxL (hxN (hxN (pN P))))).toNat = 2 + (pN P).toNat then pG P else pR P (2 + (hxL (hxL (hxN (hxN (pN P))))).toNat)) = pG P
  have hne : pN P ≠ hxN (pN P) := by unfold hxN; split <;> omega
  rw [e1, e2, if_neg (by omega), if_pos rfl]
theorem pK_2 (P : PT) (G H : Int → Int) (h : WF0 P) : 1 < pK (pPush (pPush P G) H) := by
  have := h.2.2.1
  show 1 < hxC (hxC (pK P))
  unfold hxC
  split <;> split <;> omega
