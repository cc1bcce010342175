/-! FEWEST CUTS: the class's search and the reference's find the same -/
theorem c_dw {Y : gY} {l : Launch} {g : Int → Int} (hw : wf g) (ho : oddF g = 0) (c : Nat) (hc6 : c ≤ 6) : ∀ (jq : Nat) (S : SS) (r : Nat) (t : Int → Int), wd S g → preW (g 0) r t → r + jq = c → gM Y l (mX0_dividesWith jq) S [.ref (yA Y 77), .int (iI (c : Int)), .int (iI (r : Int)), .int (iI (lst t r)), .long (lI (pkF (fun k => fsP g k t r)))] (pV (.int (iI (dvV g c r t))) (dwP g c r t S)) := by
  intro jq
  induction jq with
  | zero => exact fun S r t hd ht hr => c_X0_dividesWith hw ho c hc6 0 (fun _ _ _ h => absurd rfl h) hd r t ht hr
  | succ jq ih => exact fun S r t hd ht hr => c_X0_dividesWith hw ho c hc6 (jq + 1) (fun S r t _ hd ht hr => ih S r t hd ht hr) hd r t ht hr
theorem c_dw0 {Y : gY} {l : Launch} {S : SS} {g : Int → Int} (hd : wd S g) (hw : wf g) (ho : oddF g = 0) (c : Nat) (hc6 : c ≤ 6) : gM Y l (mX0_dividesWith c) S [.ref (yA Y 77), .int (iI (c : Int)), .int (iI 0), .int (iI 0), .long (lI 0)] (pV (.int (iI (dvV g c 0 (fun _ => 0)))) (dwP g c 0 (fun _ => 0) S)) := by
  have h := c_dw (Y := Y) (l := l) hw ho c hc6 c S 0 (fun _ => 0) hd (fun i hi => absurd hi (Nat.not_lt_zero i)) (by omega)
  rw [show pkF (fun k => fsP g k (fun _ => 0) 0) = 0 from pz_0] at h
  exact h
theorem isLe_ex (g : Int → Int) (c : Nat) (hw : wf g) (hc : c ≤ 6) : isLe g c (leW g c) := by
  have key : ∃ x : Int, isLe g c x := by
    by_cases h : ∃ t : Int → Int, ways (g 0) c t
    · obtain ⟨t, ht⟩ := h
      have step : ∀ N : Nat, (∃ t : Int → Int, ways (g 0) c t ∧ gapW g c t ≤ N) → ∃ x : Int, isLe g c x := by
        intro N
        induction N with
        | zero =>
          rintro ⟨t, h1, h2⟩
          have h3 := (gapW_in hw h1 (by omega) (by omega) 4).1
          have h4 : 0 ≤ gapW g c t := h3
          exact ⟨0, Or.inr ⟨Int.le_refl _, ⟨t, h1, by omega⟩, fun u hu => (gapW_in hw hu (by omega) (by omega) 4).1⟩⟩
        | succ N ih =>
          rintro ⟨t, h1, h2⟩
          by_cases h5 : ∃ u : Int → Int, ways (g 0) c u ∧ gapW g c u ≤ N
          · exact ih h5
          · have h4 : 0 ≤ gapW g c t := (gapW_in hw h1 (by omega) (by omega) 4).1
            refine ⟨gapW g c t, Or.inr ⟨h4, ⟨t, h1, rfl⟩, fun u hu => ?_⟩⟩
            have h6 : ¬ gapW g c u ≤ N := fun z => h5 ⟨u, hu, z⟩
            omega
      have h4 : 0 ≤ gapW g c t := (gapW_in hw ht (by omega) (by omega) 4).1
      exact step (gapW g c t).toNat ⟨t, ht, by omega⟩
    · exact ⟨-1, Or.inl ⟨rfl, fun t ht => h ⟨t, ht⟩⟩⟩
  obtain ⟨x, hx⟩ := key
  rw [leW_of hx]
  exact hx
theorem leW_0 {g : Int → Int} (hw : wf g) {c : Nat} (hc : c ≤ 6) : leW g c = 0 ↔ ∃ t : Int → Int, goodW g c t := by
  have h := isLe_ex g c hw hc
  constructor
  · intro e
    rcases h with ⟨a, _⟩ | ⟨a, ⟨t, ht, he⟩, _⟩
    · omega
    · exact ⟨t, goodW_iff.mpr ⟨ht, he.trans e⟩⟩
  · rintro ⟨t, ht⟩
    obtain ⟨h1, h2⟩ := goodW_iff.mp ht
    rcases h with ⟨a, b⟩ | ⟨a, _, b⟩
    · exact absurd h1 (b t)
    · have := b t h1
      omega
theorem isFe_ex (g : Int → Int) : isFe g (fewF g) := by
  have key : ∀ n : Nat, n ≤ 7 → (∃ x : Int, (0 ≤ x ∧ x < n) ∧ leW g x = 0 ∧ ∀ j : Int, 0 ≤ j → j < x → leW g j ≠ 0) ∨ ∀ j : Int, 0 ≤ j → j < n → leW g j ≠ 0 := by
    intro n
    induction n with
    | zero => intro _; exact Or.inr (fun j h0 h1 => by omega)
    | succ n ih =>
      intro hn
      rcases ih (by omega) with ⟨x, h1, h2, h3⟩ | h
      · exact Or.inl ⟨x, by omega, h2, h3⟩
      · by_cases e : leW g n = 0
        · exact Or.inl ⟨n, by omega, e, fun j h0 h1 => h j h0 h1⟩
        · refine Or.inr (fun j h0 h1 => ?_)
          by_cases ej : j = n
          · rw [ej]; exact e
          · exact h j h0 (by omega)
  have : ∃ x : Int, isFe g x := by
    rcases key 7 (by omega) with ⟨x, h1, h2, h3⟩ | h
    · exact ⟨x, Or.inr ⟨by omega, h2, h3⟩⟩
    · exact ⟨-1, Or.inl ⟨rfl, fun j h0 h1 => h j h0 (by omega)⟩⟩
  obtain ⟨x, hx⟩ := this
  rw [fewF_of hx]
  exact hx
noncomputable def fbV (g : Int → Int) (lim : Int) : Int := if fewF g ≠ -1 ∧ fewF g ≤ lim then fewF g else -1
theorem fbV_in (g : Int → Int) (lim : Int) : -1 ≤ fbV g lim ∧ fbV g lim ≤ 6 := by
  have := isFe_in (isFe_ex g)
  unfold fbV
  split <;> omega
theorem good_even {g : Int → Int} {c : Nat} {t : Int → Int} (h : goodW g c t) : oddF g = 0 := by
  have h2 := gapS_0.mp h.2
  have a0 := h2 0 (by decide) (by decide)
  have a1 := h2 1 (by decide) (by decide)
  have a2 := h2 2 (by decide) (by decide)
  have a3 := h2 3 (by decide) (by decide)
  unfold oddF
  rw [if_pos (by omega)]
theorem few_odd {g : Int → Int} (hw : wf g) (h : oddF g ≠ 0) : fewF g = -1 := by
  refine fewF_of (Or.inl ⟨rfl, fun j h0 h1 e => ?_⟩)
  obtain ⟨m, rfl⟩ := Int.eq_ofNat_of_zero_le h0
  obtain ⟨t, ht⟩ := (leW_0 hw (by omega)).mp e
  exact h (good_even ht)
theorem few_at {g : Int → Int} {c : Nat} (hc : c ≤ 6) (h0 : leW g c = 0) (hno : ∀ j : Int, 0 ≤ j → j < c → leW g j ≠ 0) : fewF g = c := fewF_of (Or.inr ⟨⟨by omega, by omega⟩, h0, hno⟩)
theorem few_not {g : Int → Int} {n : Int} (hno : ∀ j : Int, 0 ≤ j → j < n → leW g j ≠ 0) : fewF g = -1 ∨ n ≤ fewF g := by
  rcases isFe_ex g with ⟨a, _⟩ | ⟨a, b, _⟩
  · exact Or.inl a
  · by_cases h : n ≤ fewF g
    · exact Or.inr h
    · exact absurd b (hno _ a.1 (by omega))
theorem low_lex {g : Int → Int} {c : Nat} {t u : Int → Int} (h : lowW g c 0 t u) : lexL g c u := by
  obtain ⟨-, h2, h3⟩ := h
  obtain ⟨a, b⟩ := goodW_iff.mp h2
  exact ⟨a, b, fun v hv hg => h3 v (fun i hi => absurd hi (Nat.not_lt_zero i)) (goodW_iff.mpr ⟨hv, hg⟩)⟩
theorem few_way {g : Int → Int} {c : Nat} (hc : fewF g = c) {u : Int → Int} (h : lexL g c u) : ∀ i : Nat, i < c → wyF g i = u i := by
  have h1 := wyF_of (g := g) (T := u) (by rw [hc]; exact h) (by omega)
  intro i hi
  exact h1 i (by omega) (by omega)
