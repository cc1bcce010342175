/-! THE LEAST GAP with so many cuts at most -/
theorem minEx {P : Int → Prop} (h : ∃ x, P x) (h0 : ∀ x, P x → 0 ≤ x) : ∃ x, P x ∧ ∀ y, P y → x ≤ y := by
  have step : ∀ N : Nat, (∃ x, P x ∧ x ≤ N) → ∃ x, P x ∧ ∀ y, P y → x ≤ y := by
    intro N
    induction N with
    | zero =>
      rintro ⟨x, h1, h2⟩
      have := h0 x h1
      exact ⟨x, h1, fun y hy => by have := h0 y hy; omega⟩
    | succ N ih =>
      rintro ⟨x, h1, h2⟩
      by_cases h5 : ∃ y, P y ∧ y ≤ N
      · exact ih h5
      · refine ⟨x, h1, fun y hy => ?_⟩
        have h6 : ¬ y ≤ N := fun z => h5 ⟨y, hy, z⟩
        omega
  obtain ⟨x, hx⟩ := h
  have := h0 x hx
  exact step x.toNat ⟨x, hx, by omega⟩
/-- a gap that can be had: with the first cuts told, so many at most, the next one (if there is one) ahead of p -/
def hadG (g : Int → Int) (m r : Nat) (t : Int → Int) (p x : Int) : Prop := ∃ (c : Nat) (u : Int → Int), (r ≤ c ∧ c ≤ m) ∧ agrN r u t ∧ preW (g 0) c u ∧ (c = r ∨ u r < p) ∧ gapS g (fsE g c u) = x
def mnG (g : Int → Int) (m r : Nat) (t : Int → Int) (p x : Int) : Prop := hadG g m r t p x ∧ ∀ y, hadG g m r t p y → x ≤ y
theorem hadG_in {g : Int → Int} (hw : wf g) {m r : Nat} {t : Int → Int} {p x : Int} (h : hadG g m r t p x) : 0 ≤ x ∧ x ≤ 262144 := by
  obtain ⟨c, u, -, -, h3, -, rfl⟩ := h
  exact sm_gpS hw (fsE_R hw h3) 4 (Nat.le_refl _)
theorem mnG_u {g : Int → Int} {m r : Nat} {t : Int → Int} {p x y : Int} (h1 : mnG g m r t p x) (h2 : mnG g m r t p y) : x = y := by
  have := h1.2 y h2.1
  have := h2.2 x h1.1
  omega
noncomputable def lgV (g : Int → Int) (m r : Nat) (t : Int → Int) : Int := Classical.epsilon (fun x => mnG g m r t (g 0) x)
theorem lgV_of {g : Int → Int} {m r : Nat} {t : Int → Int} {x : Int} (h : mnG g m r t (g 0) x) : lgV g m r t = x := mnG_u (Classical.epsilon_spec (p := fun x => mnG g m r t (g 0) x) ⟨x, h⟩) h
theorem mnG_0 {g : Int → Int} {m r : Nat} {t : Int → Int} (ht : preW (g 0) r t) (hm : r ≤ m) : mnG g m r t (lst t r + 1) (gapS g (fsE g r t)) := by
  refine ⟨⟨r, t, ⟨Nat.le_refl _, hm⟩, agrN.rf, ht, Or.inl rfl, rfl⟩, fun y hy => ?_⟩
  obtain ⟨c, u, h1, h2, h3, h4, rfl⟩ := hy
  by_cases e : c = r
  · subst e; rw [fsE_c h2]; exact Int.le_refl _
  · have h5 := (h3 r (by omega)).1
    rw [lst_c h2] at h5
    omega
theorem lgV_ex {g : Int → Int} (hw : wf g) {m r : Nat} {t : Int → Int} (ht : preW (g 0) r t) (hm : r ≤ m) : mnG g m r t (g 0) (lgV g m r t) := by
  obtain ⟨x, h1, h2⟩ := minEx (P := fun x => hadG g m r t (g 0) x) ⟨_, ⟨r, t, ⟨Nat.le_refl _, hm⟩, agrN.rf, ht, Or.inl rfl, rfl⟩⟩ (fun x hx => (hadG_in hw hx).1)
  rw [lgV_of ⟨h1, h2⟩]
  exact ⟨h1, h2⟩
/-- the next place -/
theorem mnG_s {g : Int → Int} (hw : wf g) {m r : Nat} {t : Int → Int} (ht : preW (g 0) r t) (hm : r < m) {p x : Int} (p0 : lst t r < p) (p1 : p < g 0) (h : mnG g m r t p x) : mnG g m r t (p + 1) (if lgV g m (r + 1) (uq t r p) < x then lgV g m (r + 1) (uq t r p) else x) := by
  have h9 := lgV_ex hw (preW_up ht p0 p1) (m := m) hm
  have hur : ∀ u : Int → Int, agrN (r + 1) u (uq t r p) → agrN r u t ∧ u r = p := fun u hu => ⟨fun i hi => by rw [hu i (by omega), uq_ne _ _ (by omega)], by rw [hu r (by omega), uq_eq]⟩
  have up : hadG g m r t (p + 1) (lgV g m (r + 1) (uq t r p)) := by
    obtain ⟨c, u, h1, h2, h3, h4, h5⟩ := h9.1
    obtain ⟨a, b⟩ := hur u h2
    exact ⟨c, u, by omega, a, h3, Or.inr (by omega), h5⟩
  have upx : hadG g m r t (p + 1) x := by
    obtain ⟨c, u, h1, h2, h3, h4, h5⟩ := h.1
    exact ⟨c, u, h1, h2, h3, by omega, h5⟩
  refine ⟨by split <;> assumption, fun y hy => ?_⟩
  obtain ⟨c, u, h1, h2, h3, h4, h5⟩ := hy
  by_cases e : c = r ∨ u r < p
  · have := h.2 y ⟨c, u, h1, h2, h3, e, h5⟩
    split <;> omega
  · have hu : agrN (r + 1) u (uq t r p) := fun i hi => by
      by_cases hi2 : i = r
      · subst hi2; rw [uq_eq]; omega
      · rw [uq_ne _ _ (by omega)]; exact h2 i (by omega)
    have h6 : c = r + 1 ∨ u ((r + 1 : Nat) : Int) < g 0 := by
      by_cases e2 : c = r + 1
      · exact Or.inl e2
      · exact Or.inr (h3 (r + 1) (by omega)).2
    have := h9.2 y ⟨c, u, by omega, hu, h3, h6, h5⟩
    split <;> omega
theorem mnG_n {g : Int → Int} {m r : Nat} {t : Int → Int} {p x : Int} (h : mnG g m r t p x) (he : m ≤ r ∨ g 0 ≤ p) : lgV g m r t = x := by
  refine lgV_of ⟨?_, fun y hy => ?_⟩
  · obtain ⟨c, u, h1, h2, h3, h4, h5⟩ := h.1
    refine ⟨c, u, h1, h2, h3, ?_, h5⟩
    by_cases e : c = r
    · exact Or.inl e
    · exact Or.inr (h3 r (by omega)).2
  · obtain ⟨c, u, h1, h2, h3, h4, h5⟩ := hy
    refine h.2 y ⟨c, u, h1, h2, h3, ?_, h5⟩
    rcases he with he | he
    · exact Or.inl (by omega)
    · by_cases e : c = r
      · exact Or.inl e
      · have := (h3 r (by omega)).2
        exact Or.inr (by omega)
/-- the reference's least gap is this one -/
theorem lgF_mn {g : Int → Int} (hw : wf g) (m : Nat) (hm : m ≤ 6) : mnG g m 0 (fun _ => 0) (g 0) (lgF g m) := by
  have hz : ∀ t : Int → Int, ways (g 0) (0 : Nat) t := fun t i h0 h1 => by omega
  have had : ∀ (c : Nat) (t : Int → Int), c ≤ m → preW (g 0) c t → hadG g m 0 (fun _ => 0) (g 0) (gapW g c t) := fun c t hc ht => by
    refine ⟨c, t, ⟨Nat.zero_le _, hc⟩, fun i hi => absurd hi (Nat.not_lt_zero i), ht, ?_, (gapW_S g c t).symm⟩
    by_cases e : c = 0
    · exact Or.inl e
    · exact Or.inr (ht 0 (by omega)).2
  have key : ∀ n : Nat, n ≤ m → (∃ (c : Nat) (t : Int → Int), c ≤ n ∧ preW (g 0) c t ∧ gapW g c t = lgF g n) ∧ ∀ (c : Nat) (t : Int → Int), c ≤ n → preW (g 0) c t → lgF g n ≤ gapW g c t := by
    intro n
    induction n with
    | zero =>
      intro _
      have h := isLe_ex g 0 hw (by omega)
      rcases h with ⟨a, b⟩ | ⟨a, ⟨t, ht, he⟩, b⟩
      · exact absurd (hz (fun _ => 0)) (b _)
      · refine ⟨⟨0, t, Nat.le_refl _, ways_pre.mp ht, he⟩, fun c u hc hu => ?_⟩
        rw [Nat.le_zero.mp hc] at hu ⊢
        exact b u (ways_pre.mpr hu)
    | succ n ih =>
      intro hn
      obtain ⟨⟨c, t, hc, ht, he⟩, hmin⟩ := ih (by omega)
      have h := isLe_ex g (n + 1) hw (by omega)
      rw [show ((n + 1 : Nat) : Int) = (n : Int) + 1 by omega] at h
      rw [lgF]
      rcases h with ⟨a, b⟩ | ⟨a, ⟨u, hu, he2⟩, b⟩
      · rw [if_neg (by omega)]
        refine ⟨⟨c, t, by omega, ht, he⟩, fun c2 u2 hc2 hu2 => ?_⟩
        by_cases e : c2 = n + 1
        · subst e
          exact absurd (ways_pre.mpr hu2) (b u2)
        · exact hmin c2 u2 (by omega) hu2
      · have hu' : preW (g 0) (n + 1) u := ways_pre.mp (by rw [show ((n + 1 : Nat) : Int) = (n : Int) + 1 by omega]; exact hu)
        have he3 : gapW g ((n + 1 : Nat) : Int) u = leW g ((n : Int) + 1) := by rw [show ((n + 1 : Nat) : Int) = (n : Int) + 1 by omega]; exact he2
        refine ⟨?_, fun c2 u2 hc2 hu2 => ?_⟩
        · split
          · exact ⟨n + 1, u, Nat.le_refl _, hu', he3⟩
          · exact ⟨c, t, by omega, ht, he⟩
        · by_cases e : c2 = n + 1
          · subst e
            have := b u2 (by have := ways_pre.mpr hu2; rw [show ((n + 1 : Nat) : Int) = (n : Int) + 1 by omega] at this; exact this)
            rw [show ((n + 1 : Nat) : Int) = (n : Int) + 1 by omega]
            split <;> omega
          · have := hmin c2 u2 (by omega) hu2
            split <;> omega
  obtain ⟨⟨c, t, hc, ht, he⟩, hmin⟩ := key m (Nat.le_refl _)
  refine ⟨by rw [← he]; exact had c t hc ht, fun y hy => ?_⟩
  obtain ⟨c2, u2, h1, h2, h3, h4, rfl⟩ := hy
  rw [← gapW_S]
  exact hmin c2 u2 h1.2 h3
