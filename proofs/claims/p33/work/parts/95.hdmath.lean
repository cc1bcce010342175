/-! WHAT HOLDS: sums over runs, the least gaps, a fair string -/
section
variable {g : Int → Int}
/-- over the places of the first runs -/
def prE (g f : Int → Int) (r p : Int) : Int := if runF g p < r then f p else 0
def prS (g f : Int → Int) (r : Int) : Int := sm (prE g f r) (g 0).toNat
theorem prS_0 (f : Int → Int) : prS g f 0 = 0 := by
  have h := sm_cong (f := prE g f 0) (g := fun _ => 0) (n := (g 0).toNat) (fun p _ _ => if_neg (by unfold runF; omega))
  unfold prS
  rw [h, sm_const]
  omega
theorem prS_s (f : Int → Int) (r : Int) : prS g f (r + 1) = prS g f r + sm (fun p => if runF g p = r then f p else 0) (g 0).toNat := by
  unfold prS
  rw [← sm_add]
  refine sm_cong (fun p _ _ => ?_)
  unfold prE
  rcases Int.lt_trichotomy (runF g p) r with h | h | h
  · rw [if_pos (by omega), if_pos h, if_neg (by omega)]; omega
  · rw [if_pos (by omega), if_neg (by omega), if_pos h]; omega
  · rw [if_neg (by omega), if_neg (by omega), if_neg (by omega)]; omega
theorem prS_n (hw : wf g) (hn : 1 ≤ g 0) (f : Int → Int) : prS g f (runsF g) = sm f (g 0).toNat := by
  unfold prS
  refine sm_cong (fun p p0 p1 => ?_)
  exact if_pos (runF_lt (g := g) (by omega) (by have := hw.1; omega))
/-- where a run begins: as many places as the runs ahead of it have -/
theorem prS_fp (hw : wf g) {r : Int} (h0 : 0 ≤ r) (h1 : r < runsF g) : prS g (fun _ => 1) r = fpF g r := by
  obtain ⟨f0, f1, f2, f3⟩ := fpF_in hw h0 h1
  have hn := hw.1
  unfold prS
  rw [sm_from (prE g (fun _ => 1) r) (a := (fpF g r).toNat) (b := (g 0).toNat) (by omega)]
  have e1 := sm_cong (f := prE g (fun _ => 1) r) (g := fun _ => 1) (n := (fpF g r).toNat) (fun p p0 p1 => if_pos (f3 p p0 (by omega)))
  have e2 := sm_cong (f := fun p => prE g (fun _ => 1) r (p + ((fpF g r).toNat : Nat))) (g := fun _ => 0) (n := (g 0).toNat - (fpF g r).toNat) (fun p p0 p1 => if_neg (by
    have := runF_mono g (p := fpF g r) (q := p + ((fpF g r).toNat : Nat)) f0 (by omega)
    omega))
  rw [e1, e2, sm_const, sm_const]
  omega
theorem pl_is (g : Int → Int) (r : Int) : sm (fun p => if runF g p = r then (1 : Int) else 0) (g 0).toNat = plF g r := rfl
theorem pl_pos (hw : wf g) {r : Int} (h0 : 0 ≤ r) (h1 : r < runsF g) : 0 < plF g r ∧ plF g r ≤ 16 := by
  obtain ⟨f0, f1, f2, f3⟩ := fpF_in hw h0 h1
  have h2 := ((plF_run hw h0 (by omega)).2 (fpF g r) f0 f1).mp f2
  have h3 := plF_in hw r
  omega
/-- nobody's places of a run -/
theorem nb_is (hw : wf g) {r : Int} (h0 : 0 ≤ r) (h1 : r < runsF g) : sm (fun p => if runF g p = r then nobE g p else 0) (g 0).toNat = if g (38 + fpF g r) = -1 then plF g r else 0 := by
  have hn := hw.1
  by_cases z : g (38 + fpF g r) = -1
  · rw [if_pos z]
    refine sm_cong (fun p p0 p1 => ?_)
    unfold plE
    by_cases e : runF g p = r
    · rw [if_pos e, if_pos e]
      exact if_pos ((own_runI hw p0 (by omega) e).trans z)
    · rw [if_neg e, if_neg e]
  · rw [if_neg z]
    have h9 := sm_cong (f := fun p => if runF g p = r then nobE g p else 0) (g := fun _ => 0) (n := (g 0).toNat) (fun p p0 p1 => by
      by_cases e : runF g p = r
      · show (if runF g p = r then nobE g p else 0) = 0
        rw [if_pos e]
        exact if_neg (fun y => z ((own_runI hw p0 (by omega) e).symm.trans y))
      · exact if_neg e)
    rw [h9, sm_const]
    omega
def vaE (g : Int → Int) (p : Int) : Int := valF g (jatF g p)
theorem rv_is (g : Int → Int) (r : Int) : sm (fun p => if runF g p = r then vaE g p else 0) (g 0).toNat = rvF g r := rfl
def totF (g : Int → Int) : Int := sm (vaE g) (g 0).toNat
theorem va_in (hw : wf g) {p : Int} (p0 : 0 ≤ p) (p1 : p < g 0) : 0 ≤ vaE g p ∧ vaE g p ≤ 9 := by
  have hj := jatF_in hw p0 p1
  have hk := hw.2.2.2.2.2.2.1 _ hj.1 hj.2
  unfold vaE valF
  split <;> omega
theorem pr_bd (hw : wf g) {f : Int → Int} {c : Int} (hc : 0 ≤ c) (hf : ∀ p : Int, 0 ≤ p → p < g 0 → 0 ≤ f p ∧ f p ≤ c) (r : Int) : 0 ≤ prS g f r ∧ prS g f r ≤ (g 0).toNat * c := by
  have hn := hw.1
  unfold prS
  exact sm_bd (fun p p0 p1 => by
    have := hf p p0 (by omega)
    unfold prE
    split <;> omega)
theorem tot_in (hw : wf g) : 0 ≤ totF g ∧ totF g ≤ 144 := by
  have hn := hw.1
  have := sm_bd (f := vaE g) (c := 9) (n := (g 0).toNat) (fun p p0 p1 => va_in hw p0 (by omega))
  unfold totF
  omega
theorem rvG_in (hw : wf g) (r : Int) (q : Nat) (hq : (q : Int) ≤ g 0) : 0 ≤ rvG g r q ∧ rvG g r q ≤ 144 := by
  have hn := hw.1
  have := sm_bd (f := rvE g r) (c := 9) (n := q) (fun p p0 p1 => by
    have := va_in hw p0 (show p < g 0 by omega)
    unfold rvE
    unfold vaE at this
    split <;> omega)
  unfold rvG
  omega
/-- a cut is where a run begins, but the first one -/
theorem bit_run (hw : wf g) {r p : Int} (h0 : 0 ≤ r) (h1 : r < runsF g) (p0 : fpF g r ≤ p) (p1 : p < fpF g r + plF g r) : (p ≠ fpF g r → (g 5).toNat.testBit p.toNat = false) ∧ (p = fpF g r → p ≤ 0 → (g 5).toNat.testBit p.toNat = false) ∧ (p = fpF g r → 0 < p → (g 5).toNat.testBit p.toNat = true) := by
  obtain ⟨f0, f1, f2, f3⟩ := fpF_in hw h0 h1
  have hr := plF_run hw h0 (show r ≤ runsF g - 1 by omega)
  have hp := (hr.2 p (by omega) (by omega)).mpr ⟨p0, p1⟩
  have hs : 1 ≤ p → runF g p = runF g (p - 1) + (if (g 5).toNat.testBit p.toNat then 1 else 0) := fun z => by
    have := runF_s g (p - 1).toNat
    rw [show (((p - 1).toNat + 1 : Nat) : Int) = p by omega, show (((p - 1).toNat : Nat) : Int) = p - 1 by omega, show (p - 1).toNat + 1 = p.toNat by omega] at this
    exact this
  refine ⟨fun hne => ?_, fun he hz => ?_, fun he hz => ?_⟩
  · have h2 := (hr.2 (p - 1) (by omega) (by omega)).mpr ⟨by omega, by omega⟩
    have h3 := hs (by omega)
    cases hb : (g 5).toNat.testBit p.toNat with
    | false => rfl
    | true => rw [hb, if_pos rfl] at h3; omega
  · cases hb : (g 5).toNat.testBit p.toNat with
    | false => rfl
    | true => have := (hw.2.2.2.2.2.1 _ hb).1; omega
  · have h2 := f3 (p - 1) (by omega) (by omega)
    have h3 := hs (by omega)
    cases hb : (g 5).toNat.testBit p.toNat with
    | true => rfl
    | false => rw [hb] at h3; simp at h3; omega
theorem jw_place (hw : wf g) {p : Int} (p0 : 0 ≤ p) (p1 : p < g 0) : (jatF g p - g 1 + g 0) % g 0 = p := by
  have hb := hw.2.1
  unfold jatF
  by_cases h : g 1 + p < g 0
  · rw [Int.emod_eq_of_lt (by omega) h, show g 1 + p - g 1 + g 0 = p + g 0 by omega, Int.add_emod_right, Int.emod_eq_of_lt p0 p1]
  · have e : (g 1 + p) % g 0 = g 1 + p - g 0 := by
      rw [show g 1 + p = (g 1 + p - g 0) + g 0 by omega, Int.add_emod_right, Int.emod_eq_of_lt (by omega) (by omega)]
      omega
    rw [e, show g 1 + p - g 0 - g 1 + g 0 = p by omega, Int.emod_eq_of_lt p0 p1]
/-- all kinds together -/
theorem kinds_1 (hw : wf g) {p : Int} (p0 : 0 ≤ p) (p1 : p < g 0) : ahE g 0 p + ahE g 1 p + ahE g 2 p + ahE g 3 p = vaE g p := by
  have hj := jatF_in hw p0 p1
  have hk := (hw.2.2.2.2.2.2.1 _ hj.1 hj.2).1
  unfold ahE vaE
  rcases (show g (6 + jatF g p) = 0 ∨ g (6 + jatF g p) = 1 ∨ g (6 + jatF g p) = 2 ∨ g (6 + jatF g p) = 3 by omega) with h | h | h | h <;> rw [h] <;> simp
theorem kinds_all (hw : wf g) : ∀ n : Nat, (n : Int) ≤ g 0 → ahF g 0 n + ahF g 1 n + ahF g 2 n + ahF g 3 n = sm (vaE g) n
  | 0, _ => rfl
  | n + 1, hn => by
    have h1 := kinds_all hw n (by omega)
    have h2 := kinds_1 hw (p := (n : Int)) (by omega) (by omega)
    rw [sm_s, ahF_s, ahF_s, ahF_s, ahF_s]
    omega
theorem kinds_tot (hw : wf g) : ahF g 0 (g 0).toNat + ahF g 1 (g 0).toNat + ahF g 2 (g 0).toNat + ahF g 3 (g 0).toNat = totF g := kinds_all hw _ (by have := hw.1; omega)
def hvE (g : Int → Int) (k : Int) : Int := hasF g 0 k + hasF g 1 k
theorem sm4 (f : Int → Int) : sm f 4 = f 0 + f 1 + f 2 + f 3 := by
  show 0 + f ((0 : Nat) : Int) + f ((1 : Nat) : Int) + f ((2 : Nat) : Int) + f ((3 : Nat) : Int) = _
  show 0 + f 0 + f 1 + f 2 + f 3 = _
  omega
theorem have_le (hw : wf g) : (0 ≤ sm (hvE g) 4 ∧ sm (hvE g) 4 ≤ totF g) ∧ (nobF g = 0 → sm (hvE g) 4 = totF g) := by
  have ht := kinds_tot hw
  rw [sm4]
  have h := fun k => has_sum hw k
  have h0 := h 0
  have h1 := h 1
  have h2 := h 2
  have h3 := h 3
  unfold hvE
  refine ⟨by omega, fun z => ?_⟩
  have hz : ∀ p : Int, 0 ≤ p → p < g 0 → g (38 + p) ≠ -1 := fun p p0 p1 => nob_0 hw.1.1 z p0 p1
  have := h0.2 hz
  have := h1.2 hz
  have := h2.2 hz
  have := h3.2 hz
  omega
/-- the least gaps -/
theorem gapS_par (hw : wf g) (s : Int → Int) : gapS g s % 2 = totF g % 2 := by
  have ht := kinds_tot hw
  have ha : ∀ k : Int, gpS g s k % 2 = ahF g k (g 0).toNat % 2 := fun k => by
    unfold gpS absI
    split <;> omega
  have h0 := ha 0
  have h1 := ha 1
  have h2 := ha 2
  have h3 := ha 3
  unfold gapS
  rw [sm4]
  omega
theorem lg_0 (hw : wf g) : lgF g 0 = totF g := by
  obtain ⟨c, u, h1, h2, h3, h4, h5⟩ := (lgF_mn hw 0 (by omega)).1
  have hc : c = 0 := by omega
  subst hc
  have hs : ∀ k : Int, fsE g 0 u k = ahF g k (g 0).toNat := fun k => by
    show wrF g (fun k => fsP g k u 0) 0 0 (g 0) k = _
    unfold wrF
    rw [if_pos (by decide)]
    show 0 + ahF g k (g 0).toNat - 0 = _
    omega
  have ht := kinds_tot hw
  rw [← h5]
  unfold gapS
  rw [sm4]
  have ha : ∀ k : Int, gpS g (fsE g 0 u) k = ahF g k (g 0).toNat := fun k => by
    have hb := (ahF_b hw k (g 0).toNat (by have := hw.1; omega)).1
    unfold gpS absI
    rw [hs]
    split <;> omega
  rw [ha, ha, ha, ha]
  exact ht
theorem lg_is (hw : wf g) {m : Nat} (hm : m ≤ 6) : 0 ≤ lgF g m ∧ lgF g m % 2 = totF g % 2 ∧ (lgF g m = 0 ↔ fewF g ≠ -1 ∧ fewF g ≤ m) := by
  have hmn := lgF_mn hw m hm
  refine ⟨(hadG_in hw hmn.1).1, ?_, ?_, ?_⟩
  · obtain ⟨c, u, h1, h2, h3, h4, h5⟩ := hmn.1
    rw [← h5]
    exact gapS_par hw _
  · intro z
    obtain ⟨c, u, h1, h2, h3, h4, h5⟩ := hmn.1
    have hg : goodW g c u := ⟨h3, by rw [h5]; exact z⟩
    have hl := (leW_0 hw (show c ≤ 6 by omega)).mpr ⟨u, hg⟩
    rcases isFe_ex g with ⟨a, b⟩ | ⟨a, b, d⟩
    · exact absurd hl (b c (by omega) (by omega))
    · refine ⟨by omega, ?_⟩
      by_cases y : fewF g ≤ m
      · exact y
      · exact absurd hl (d c (by omega) (by omega))
  · rintro ⟨a, b⟩
    have hf := few_in g
    have hg := wy_good hw (show 0 ≤ fewF g by omega)
    have h9 := hmn.2 0 ⟨(fewF g).toNat, wyF g, ⟨Nat.zero_le _, by omega⟩, fun i hi => absurd hi (Nat.not_lt_zero i), hg.1, ?_, hg.2⟩
    · have := (hadG_in hw hmn.1).1
      omega
    · by_cases e : (fewF g).toNat = 0
      · exact Or.inl e
      · exact Or.inr (hg.1 0 (by omega)).2
theorem lg_mono (hw : wf g) {m : Nat} (hm : m + 1 ≤ 6) : lgF g (m + 1) ≤ lgF g m := by
  obtain ⟨c, u, h1, h2, h3, h4, h5⟩ := (lgF_mn hw m (by omega)).1
  exact (lgF_mn hw (m + 1) hm).2 _ ⟨c, u, ⟨h1.1, by omega⟩, h2, h3, h4, h5⟩
theorem lg_le (hw : wf g) : ∀ m : Nat, m ≤ 6 → lgF g m ≤ totF g
  | 0, _ => by rw [lg_0 hw]; exact Int.le_refl _
  | m + 1, hm => Int.le_trans (lg_mono hw hm) (lg_le hw m (by omega))
/-- the places of a division rise -/
theorem div_rise (hw : wf g) {k : Int} (h0 : 0 ≤ k) (h1 : k < fewF g) : divF g k = wyF g k ∧ (k = 0 → 0 < wyF g k) ∧ (0 < k → divF g (k - 1) < wyF g k) ∧ wyF g k < g 0 := by
  have hg := wy_good hw (show 0 ≤ fewF g by omega)
  have h2 := wyF_in hw h0 h1
  refine ⟨if_pos h1, fun _ => by omega, fun z => ?_, h2.1.2⟩
  have h3 := (hg.1 k.toNat (by omega)).1
  rw [show k.toNat = (k.toNat - 1) + 1 by omega, lst_s, show (((k.toNat - 1 : Nat)) : Int) = k - 1 by omega, show (((k.toNat - 1 + 1 : Nat)) : Int) = k by omega] at h3
  have h4 : divF g (k - 1) = wyF g (k - 1) := if_pos (by omega)
  rw [h4]
  exact h3
theorem div_no {k : Int} (h : ¬ k < fewF g) : divF g k = -1 := if_neg h
theorem div_in (hw : wf g) {k : Int} (h0 : 0 ≤ k) : -1 ≤ divF g k ∧ divF g k ≤ 16 := by
  by_cases h : k < fewF g
  · have h1 := (div_rise hw h0 h).1
    have h2 := wyF_in hw h0 h
    omega
  · rw [div_no h]; omega
/-- a fair string takes no more cuts than it has -/
theorem cn_sub {a c : Nat} : ∀ n : Nat, (∀ p, p < n → a.testBit p = true → c.testBit (p + 1) = true) → cn a n ≤ cn c (n + 1)
  | 0, _ => by rw [cn]; omega
  | n + 1, h => by
    have h1 := cn_sub n (fun p hp => h p (by omega))
    have h2 := h n (by omega)
    rw [cn_s, cn_s c (n + 1)]
    by_cases z : a.testBit n = true
    · rw [h2 z, z]; simp; exact h1
    · rw [if_neg z]; omega
theorem fair_few (hw : wf g) (hn : 1 ≤ g 0) (h0 : nobF g = 0) (h1 : gapF g = 0) (hc : cn (g 5).toNat 16 ≤ 6) : fewF g ≠ -1 ∧ fewF g ≤ (cn (g 5).toNat 16 : Nat) := by
  have hm := hw.1
  have hnb : ∀ p : Int, 0 ≤ p → p < g 0 → g (38 + p) = 0 ∨ g (38 + p) = 1 := fun p p0 p1 => by
    have := nob_0 hm.1 h0 p0 p1
    have := hw.2.2.2.2.2.2.2.1 p p0 (by omega)
    omega
  -- the one to whom the last place doesn't belong
  obtain ⟨x, hx⟩ : ∃ z : Int, 1 - g (38 + (g 0 - 1)) = z := ⟨_, rfl⟩
  have hlast := hnb (g 0 - 1) (by omega) (by omega)
  obtain ⟨w, hwd⟩ : ∃ z : Nat, obt (fun p => decide (g (38 + (p : Int)) = x)) ((g 0).toNat - 1) = z := ⟨_, rfl⟩
  have wlt : w < 2 ^ ((g 0).toNat - 1) := by rw [← hwd]; exact obt_lt _ _
  have wbit : ∀ p : Nat, (p : Int) < g 0 → w.testBit p = decide (g (38 + (p : Int)) = x) := fun p hp => by
    rw [← hwd, obt_bit]
    by_cases e : p < (g 0).toNat - 1
    · rw [decide_eq_true e, Bool.true_and]
    · have : (p : Int) = g 0 - 1 := by omega
      rw [decide_eq_false e, Bool.false_and, this, decide_eq_false (by omega)]
  have hwx : ∀ k : Int, owS g w k = hasF g x k := fun k => by
    unfold owS hasF
    refine sm_cong (fun p p0 p1 => ?_)
    unfold owE hasE ahE
    rw [wbit p.toNat (by omega), show ((p.toNat : Nat) : Int) = p by omega]
    by_cases e : g (38 + p) = x
    · rw [decide_eq_true e, if_pos rfl]
      by_cases e2 : g (6 + jatF g p) = k
      · rw [if_pos e2, if_pos ⟨e, e2⟩]
      · rw [if_neg e2, if_neg (fun y => e2 y.2)]
    · rw [decide_eq_false e, if_neg (by decide), if_neg (fun y => e y.1)]
  have hz : gapS g (owS g w) = 0 := by
    refine gapS_0.mpr (fun k k0 k1 => ?_)
    have h2 := (has_sum hw k).2 (fun p p0 p1 => nob_0 hm.1 h0 p0 p1)
    have h3 := sm_nz (f := gapE g) (n := 4) (fun k _ _ => absI_0 _) k.toNat (by omega)
    have h3b : sm (gapE g) 4 = 0 := h1
    rw [show ((k.toNat : Nat) : Int) = k by omega, h3b] at h3
    have h4 : hasF g 0 k = hasF g 1 k := by
      unfold gapE absI at h3
      split at h3 <;> omega
    rw [hwx]
    rcases (show x = 0 ∨ x = 1 by omega) with e | e <;> rw [e] <;> omega
  obtain ⟨t, ht⟩ := cuts_of_own hw (by omega) wlt hz
  have hch : chF w ≤ cn (g 5).toNat 16 := by
    have h2 : chF w ≤ cn (g 5).toNat 17 := cn_sub 16 (fun p hp hb => by
      rw [gry_bit] at hb
      by_cases e : (p : Int) + 1 < g 0
      · rw [wbit p (by omega), wbit (p + 1) (by omega)] at hb
        cases hc2 : (g 5).toNat.testBit (p + 1) with
        | true => rfl
        | false =>
          exfalso
          have h3 := hw.2.2.2.2.2.2.2.2 ((p + 1 : Nat) : Int) (by omega) (by omega) (by rw [show (((p + 1 : Nat) : Int)).toNat = p + 1 from rfl]; exact hc2)
          rw [show ((p + 1 : Nat) : Int) - 1 = (p : Int) by omega] at h3
          rw [h3] at hb
          simp at hb
      · rw [hi_bit wlt (show (g 0).toNat - 1 ≤ p by omega), hi_bit wlt (show (g 0).toNat - 1 ≤ p + 1 by omega)] at hb
        simp at hb)
    have h3 : cn (g 5).toNat 17 = cn (g 5).toNat 16 := cn_stop _ (by omega) (fun p a b => by
      cases hb : (g 5).toNat.testBit p with
      | false => rfl
      | true => have := (hw.2.2.2.2.2.1 p hb).2; omega)
    omega
  have hl := (leW_0 hw (show chF w ≤ 6 by omega)).mpr ⟨t, ht⟩
  rcases isFe_ex g with ⟨a, b⟩ | ⟨a, b, d⟩
  · exact absurd hl (b (chF w) (by omega) (by omega))
  · refine ⟨by omega, ?_⟩
    by_cases y : fewF g ≤ (cn (g 5).toNat 16 : Nat)
    · exact y
    · exact absurd hl (d (chF w) (by omega) (by omega))
end
