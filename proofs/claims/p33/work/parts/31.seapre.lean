theorem mw_ne {S : SS} {n m : Nat} {g : Int → Int} (h : n ≠ m) : mw (us S m g) n = mw S n := by
  funext b; unfold mw; rw [us_a h]
def nxP (t : Int → Int) (i d : Int) : Int → Int := fun b => if i ≤ b ∧ b < d then t i + 1 + (b - i) else t b
theorem nxP_1 (t : Int → Int) (i : Int) : uq t i (t i + 1) = nxP t i (i + 1) := by
  funext b
  by_cases h : b = i
  · subst h; rw [uq_eq, nxP, if_pos (by omega)]; omega
  · rw [uq_ne _ _ h, nxP, if_neg (by omega)]
theorem nxP_s (t : Int → Int) {i d : Int} (h : i < d) : uq (nxP t i d) d (nxP t i d (d - 1) + 1) = nxP t i (d + 1) := by
  funext b
  by_cases hb : b = d
  · subst hb; rw [uq_eq, nxP, nxP, if_pos (by omega), if_pos (by omega)]; omega
  · rw [uq_ne _ _ hb, nxP, nxP]
    by_cases h2 : i ≤ b ∧ b < d
    · rw [if_pos h2, if_pos (by omega)]
    · rw [if_neg h2, if_neg (by omega)]
theorem nxP_n {m c : Int} {t : Int → Int} (h : 0 ≤ nxI m c t c.toNat) : nxP t (nxI m c t c.toNat) c = nxT m c t := (nxT_e rfl h).symm
theorem nxT_0 {m c : Int} {t : Int → Int} (h : ¬ 0 ≤ nxI m c t c.toNat) : nxT m c t = t := by
  have := (nxI_s m c t c.toNat).1
  exact if_pos (by omega)
/-- while the ways are gone through: what was tried had a gap, and x is the least of them -/
def lwI (g : Int → Int) (c x : Int) (T : Int → Int) : Prop := ways (g 0) c T ∧ (∀ t : Int → Int, ways (g 0) c t → lexT c t T → 0 < gapW g c t) ∧
  ((x = -1 ∧ ∀ t : Int → Int, ways (g 0) c t → ¬ lexT c t T) ∨ ((0 < x ∧ x ≤ 4032) ∧ (∃ t : Int → Int, ways (g 0) c t ∧ gapW g c t = x) ∧ ∀ t : Int → Int, ways (g 0) c t → lexT c t T → x ≤ gapW g c t))
/-- they have been gone through -/
def lwE (g : Int → Int) (c x : Int) (T : Int → Int) : Prop := isLe g c x ∧ (x = 0 → lexL g c T)
theorem lwI_0 {g : Int → Int} {c : Int} (t : Int → Int) (c0 : 0 ≤ c) (h : c < g 0 ∨ c = 0) : lwI g c (-1) (fwT t c.toNat) := by
  have e : ((c.toNat : Nat) : Int) = c := by omega
  have h1 := fwT_w (m := g 0) (c := c.toNat) t (by omega)
  have h2 : ∀ u : Int → Int, ways (g 0) c u → ¬ lexT c u (fwT t c.toNat) := fun u hu => by
    have := fwT_l (m := g 0) (c := c.toNat) (t := t) (u := u) (by rw [e]; exact hu)
    rwa [e] at this
  rw [e] at h1
  exact ⟨h1, fun u hu hl => absurd hl (h2 u hu), Or.inl ⟨rfl, h2⟩⟩
theorem lwE_0 {g : Int → Int} {c : Int} (t : Int → Int) (c0 : 0 ≤ c) (h : ¬ (c < g 0 ∨ c = 0)) : lwE g c (-1) t := ⟨Or.inl ⟨rfl, ways_no h c0⟩, fun z => by omega⟩
/-- the least of what was tried with this one -/
def lwX (x y : Int) : Int := if x = -1 then y else if y < x then y else x
theorem lwI_all {g : Int → Int} (hw : wf g) {c x : Int} {T : Int → Int} (c0 : 0 ≤ c) (c1 : c ≤ 6) (h : lwI g c x T) (P : (Int → Int) → Prop) (hP : ∀ t : Int → Int, ways (g 0) c t → P t → lexT c t T ∨ agr c t T) : (∃ t : Int → Int, ways (g 0) c t ∧ gapW g c t = lwX x (gapW g c T)) ∧ (∀ t : Int → Int, ways (g 0) c t → P t → lwX x (gapW g c T) ≤ gapW g c t) ∧ (x = -1 ∨ 0 < x) ∧ 0 ≤ gapW g c T := by
  obtain ⟨h1, h2, h3⟩ := h
  have hg := gapW_in hw h1 c0 c1 4
  rcases h3 with ⟨rfl, h4⟩ | ⟨h4, ⟨u, hu, hue⟩, h5⟩
  · refine ⟨⟨T, h1, by rw [lwX, if_pos rfl]⟩, fun t ht hp => ?_, Or.inl rfl, hg.1⟩
    rw [lwX, if_pos rfl]
    rcases hP t ht hp with hh | hh
    · exact absurd hh (h4 t ht)
    · rw [gapW_c c0 hh]; exact Int.le_refl _
  · refine ⟨?_, fun t ht hp => ?_, Or.inr h4.1, hg.1⟩
    · unfold lwX
      rw [if_neg (by omega)]
      split
      · exact ⟨T, h1, rfl⟩
      · exact ⟨u, hu, hue⟩
    · unfold lwX
      rw [if_neg (by omega)]
      rcases hP t ht hp with hh | hh
      · have := h5 t ht hh
        split <;> omega
      · rw [gapW_c c0 hh]; split <;> omega
/-- this one has no gap -/
theorem lwE_z {g : Int → Int} (hw : wf g) {c x : Int} {T : Int → Int} (c0 : 0 ≤ c) (c1 : c ≤ 6) (h : lwI g c x T) (hz : gapW g c T = 0) : lwE g c (lwX x (gapW g c T)) T := by
  have h1 := h.1
  have h2 := h.2.1
  have hx := (lwI_all hw c0 c1 h (fun t => lexT c t T) (fun t _ hp => Or.inl hp)).2.2.1
  have e : lwX x (gapW g c T) = 0 := by
    rw [hz, lwX]
    split
    · rfl
    · rw [if_pos (by omega)]
  rw [e]
  refine ⟨Or.inr ⟨Int.le_refl _, ⟨T, h1, hz⟩, fun t ht => (gapW_in hw ht c0 c1 4).1⟩, fun _ => ⟨h1, hz, fun t ht hz2 hl => ?_⟩⟩
  have := h2 t ht hl
  omega
/-- it was the last one -/
theorem lwE_n {g : Int → Int} (hw : wf g) {c x : Int} {T : Int → Int} (c0 : 0 ≤ c) (c1 : c ≤ 6) (h : lwI g c x T) (hz : gapW g c T > 0) (hn : ¬ 0 ≤ nxI (g 0) c T c.toNat) (U : Int → Int) : lwE g c (lwX x (gapW g c T)) U := by
  have hs := (nxI_s (g 0) c T c.toNat).1
  obtain ⟨h1, h2, h3, h4⟩ := lwI_all hw c0 c1 h (fun _ => True) (fun t ht _ => by
    rcases difC t T c0 with hh | hh | hh
    · exact Or.inr hh
    · exact Or.inl hh
    · exact absurd hh (nxT_no c0 (by omega) ht))
  have h5 : 0 < lwX x (gapW g c T) := by
    unfold lwX
    split
    · omega
    · split <;> omega
  exact ⟨Or.inr ⟨by omega, h1, fun t ht => h2 t ht trivial⟩, fun z => by omega⟩
/-- on to the next -/
theorem lwI_n {g : Int → Int} (hw : wf g) {c x : Int} {T : Int → Int} (c0 : 0 ≤ c) (c1 : c ≤ 6) (h : lwI g c x T) (hz : gapW g c T > 0) (hn : 0 ≤ nxI (g 0) c T c.toNat) : lwI g c (lwX x (gapW g c T)) (nxT (g 0) c T) := by
  obtain ⟨k1, k2, k3⟩ := nxT_y c0 h.1 hn
  obtain ⟨h1, h2, h3, h4⟩ := lwI_all hw c0 c1 h (fun t => lexT c t (nxT (g 0) c T)) k3
  have hg := gapW_in hw h.1 c0 c1 4
  have hg2 : gapW g c T ≤ 4032 := hg.2
  have h5 : 0 < lwX x (gapW g c T) ∧ lwX x (gapW g c T) ≤ 4032 := by
    unfold lwX
    split
    · omega
    · split <;> omega
  refine ⟨k1, fun t ht hl => ?_, Or.inr ⟨h5, h1, h2⟩⟩
  rcases k3 t ht hl with hh | hh
  · exact h.2.1 t ht hh
  · rw [gapW_c c0 hh]; exact hz
def isFe (g : Int → Int) (x : Int) : Prop := (x = -1 ∧ ∀ j : Int, 0 ≤ j → j ≤ 6 → leW g j ≠ 0) ∨ ((0 ≤ x ∧ x ≤ 6) ∧ leW g x = 0 ∧ ∀ j : Int, 0 ≤ j → j < x → leW g j ≠ 0)
theorem isFe_u {g : Int → Int} {x y : Int} (h1 : isFe g x) (h2 : isFe g y) : x = y := by
  rcases h1 with ⟨a, b⟩ | ⟨a, b, d⟩
  · rcases h2 with ⟨a2, b2⟩ | ⟨a2, b2, d2⟩
    · omega
    · exact absurd b2 (b y a2.1 a2.2)
  · rcases h2 with ⟨a2, b2⟩ | ⟨a2, b2, d2⟩
    · exact absurd b (b2 x a.1 a.2)
    · rcases Int.lt_trichotomy x y with h | h | h
      · exact absurd b (d2 x a.1 h)
      · exact h
      · exact absurd b2 (d y a2.1 h)
noncomputable def fewF (g : Int → Int) : Int := Classical.epsilon (fun x => isFe g x)
theorem fewF_of {g : Int → Int} {x : Int} (h : isFe g x) : fewF g = x := isFe_u (Classical.epsilon_spec (p := fun x => isFe g x) ⟨x, h⟩) h
