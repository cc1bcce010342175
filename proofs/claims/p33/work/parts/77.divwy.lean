/-! the class's divide: the cuts that were found -/
theorem enc_lt {m : Int} {c : Nat} {v u : Int → Int} (hm : m ≤ 16) (hc : c ≤ 6) (h1 : ways m c v) (h2 : ways m c u) (hl : lexT c v u) : 0 ≤ encW v c ∧ encW v c < encW u c := by
  obtain ⟨d, d0, d1, d2, d3⟩ := hl
  obtain ⟨e, rfl⟩ := Int.eq_ofNat_of_zero_le d0
  exact ⟨(encW_b c hc (ways_in hm h1)).1, encW_l d2 d3 c (by omega) (ways_in hm h1) (ways_in hm h2)⟩
theorem lex_ex {g : Int → Int} (hm : g 0 ≤ 16) {c : Nat} (hc : c ≤ 6) {t : Int → Int} (h1 : ways (g 0) c t) (h2 : gapW g c t = 0) : ∃ u : Int → Int, lexL g c u := by
  have key : ∀ (n : Nat) (t : Int → Int), (encW t c).toNat ≤ n → ways (g 0) c t → gapW g c t = 0 → ∃ u : Int → Int, lexL g c u := by
    intro n
    induction n with
    | zero =>
      intro t hn a b
      refine ⟨t, a, b, fun v hv hg hl => ?_⟩
      have := enc_lt hm hc hv a hl
      omega
    | succ n ih =>
      intro t hn a b
      by_cases he : ∃ v : Int → Int, ways (g 0) c v ∧ gapW g c v = 0 ∧ lexT c v t
      · obtain ⟨v, x, y, z⟩ := he
        have := enc_lt hm hc x a z
        exact ih v (by omega) x y
      · exact ⟨t, a, b, fun v hv hg hl => he ⟨v, hv, hg, hl⟩⟩
  exact key _ t (Nat.le_refl _) h1 h2
theorem wyF_lex {g : Int → Int} (hw : wf g) (h : 0 ≤ fewF g) : lexL g (fewF g) (wyF g) := by
  have hm : g 0 ≤ 16 := hw.1.2
  rcases isFe_ex g with ⟨a, _⟩ | ⟨⟨a, b⟩, h0, _⟩
  · omega
  · obtain ⟨c, ec⟩ := Int.eq_ofNat_of_zero_le h
    have hc : c ≤ 6 := by omega
    rw [ec] at h0
    obtain ⟨t, ht⟩ := (leW_0 hw (by omega)).mp h0
    obtain ⟨x, y⟩ := goodW_iff.mp ht
    obtain ⟨u, hu⟩ := lex_ex hm hc x y
    exact Classical.epsilon_spec (p := fun T => lexL g (fewF g) T) ⟨u, by rw [ec]; exact hu⟩
theorem wyF_in {g : Int → Int} (hw : wf g) {c : Int} (h0 : 0 ≤ c) (h1 : c < fewF g) : (1 ≤ wyF g c ∧ wyF g c < g 0) ∧ g 0 ≤ 16 := by
  have := ((wyF_lex hw (by omega)).1 c h0 h1).1
  have hm : g 0 ≤ 16 := hw.1.2
  omega
theorem wf_loo {g : Int → Int} (hw : wf g) : wf (freeF g) := by
  obtain ⟨a1, a2, a3, a4, _, _, a7, _, _⟩ := hw
  exact wf_free a1 a2 a3 a4 a7
theorem wf_lsT {g : Int → Int} (hw : wf g) (t : Int → Int) : ∀ n : Nat, wf (lsT g t n)
  | 0 => wf_loo hw
  | n + 1 => wf_cutG (wf_lsT hw t n) _ _
def cd_dv (x : Int) : Int := if x = -1 then 1 else 0
def dvR (S Sx : SS) : Prop := vw Sx (4 + (S 75 0).toNat) = vw S 0 ∧ (Sx 75 0 = hxN (S 75 0) ∧ Sx 75 1 = hxC (S 75 1)) ∧ Sx 78 0 = 0 ∧ ∀ m : Nat, 4 ≤ m → m ≠ 75 → (m < 4 * (4 + (S 75 0).toNat) ∨ 4 * (4 + (S 75 0).toNat) + 4 ≤ m) → m ≠ 77 → m ≠ 78 → m ≠ 79 → Sx m = S m
def dvQ (S Sx : SS) (n : Nat) : Prop := vw Sx 0 = lsT (vw S 0) (wyF (vw S 0)) n ∧ (∀ c : Nat, (c : Int) < fewF (vw S 0) → Sx 79 c = wyF (vw S 0) c) ∧ dvR S Sx
def dvP (S S' : SS) : Prop := vw S' 0 = dealG (lsT (vw S 0) (wyF (vw S 0)) (fewF (vw S 0)).toNat) 0 ∧ dvR S S'
theorem fdv_vw {S Sx : SS} (h : fdv S Sx) : vw Sx 0 = vw S 0 := by
  funext c
  unfold vw
  rw [h.1 (4 * 0) (by decide) (by decide) (by decide), h.1 (4 * 0 + 1) (by decide) (by decide) (by decide), h.1 (4 * 0 + 2) (by decide) (by decide) (by decide), h.1 (4 * 0 + 3) (by decide) (by decide) (by decide)]
theorem fdv_r {S : SS} (h : S 78 0 = 0) : fdv S S := ⟨fun _ _ _ _ => rfl, h⟩
theorem fdv_s {S Sx Sy Sz : SS} (h : fdv S Sx) (h1 : fd Sx Sy) (h2 : ∀ m : Nat, m ≠ 79 → Sz m = Sy m) (h3 : Sy 78 0 = 0) : fdv S Sz := ⟨fun m h7 h8 h9 => (h2 m h9).trans ((h1 m h7 h8).trans (h.1 m h7 h8 h9)), by rw [h2 78 (by decide)]; exact h3⟩
theorem vw_fr {S S' : SS} {i : Nat} (hi : 0 < i) (h : fr S S' 0) : vw S' i = vw S i := fr_vw h (by omega)
theorem dvR_s {S Sx Sy : SS} (h : dvR S Sx) (hf : fr Sx Sy 0) : dvR S Sy := by
  obtain ⟨a, ⟨b, c⟩, d, e⟩ := h
  refine ⟨(vw_fr (by omega) hf).trans a, ⟨by rw [hf 75 (by decide)]; exact b, by rw [hf 75 (by decide)]; exact c⟩, by rw [hf 78 (by decide)]; exact d, fun m h4 h5 h h7 h8 h9 => (hf m (by omega)).trans (e m h4 h5 h h7 h8 h9)⟩
theorem dvQ_0 {S Sy Sl Sm : SS} (hnx : 0 ≤ S 75 0 ∧ S 75 0 < 14) (h1 : fdv S Sy) (hy : ∀ c : Nat, (c : Int) < fewF (vw S 0) → Sy 79 c = wyF (vw S 0) c) (h2 : rmP Sy Sl) (h3 : vw Sm 0 = freeF (vw Sl 0)) (h4 : fr Sl Sm 0) : dvQ S Sm 0 := by
  have e75 : Sy 75 = S 75 := h1.1 75 (by decide) (by decide) (by decide)
  have ev := fdv_vw h1
  obtain ⟨a, ⟨b, c⟩, d⟩ := h2
  rw [e75] at a b c d
  have el : vw Sl 0 = vw Sy 0 := rm_vw (by rw [e75]; exact d)
  refine ⟨by rw [h3, el, ev]; rfl, fun k hk => ?_, dvR_s ⟨a.trans ev, ⟨b, c⟩, ?_, fun m m4 m5 h m7 m8 m9 => ?_⟩ h4⟩
  · rw [h4 79 (by decide), d 79 (by decide) (by omega)]; exact hy k hk
  · rw [d 78 (by decide) (by omega)]; exact h1.2
  · rw [d m m5 h]; exact h1.1 m m7 m8 m9
theorem dvQ_s {S Sx Sy : SS} {n : Nat} {c : Int} (h : dvQ S Sx n) (hn : (n : Int) < fewF (vw S 0)) (hc : c = Sx 79 n) (hv : vw Sy 0 = cutG (vw Sx 0) c 1) (hf : fr Sx Sy 0) : dvQ S Sy (n + 1) := by
  obtain ⟨a, b, d⟩ := h
  refine ⟨by rw [hv, hc, b n hn, a]; rfl, fun k hk => ?_, dvR_s d hf⟩
  rw [hf 79 (by decide)]; exact b k hk
theorem dvP_of {S Sx Sz : SS} {n : Nat} (h : dvQ S Sx n) (hn : (n : Int) = fewF (vw S 0)) (hv : vw Sz 0 = dealG (vw Sx 0) 0) (hf : fr Sx Sz 0) : dvP S Sz :=
  ⟨by rw [hv, h.1, show (fewF (vw S 0)).toNat = n by omega], dvR_s h.2.2 hf⟩
theorem pw5_0 {s : Int} {k : Nat} (h0 : 0 ≤ s) (hk : k ≤ 3) : s / pw5 k = 0 ↔ s < pw5 k := by
  have e0 : pw5 0 = 1 := by decide
  have e1 : pw5 1 = 100000 := by decide
  have e2 : pw5 2 = 10000000000 := by decide
  have e3 : pw5 3 = 1000000000000000 := by decide
  rcases (show k = 0 ∨ k = 1 ∨ k = 2 ∨ k = 3 by omega) with h | h | h | h <;> subst h
  · rw [e0]; omega
  · rw [e1]; omega
  · rw [e2]; omega
  · rw [e3]; omega
theorem f1t_s {S Sx Sy : SS} (h : f1t S Sx) (h2 : ∀ m : Nat, (m < 4 * 1 ∨ 4 * 1 + 4 ≤ m) → m ≠ 77 → m ≠ 78 → m ≠ 79 → Sy m = Sx m) : f1t S Sy := fun m h1 a b c => (h2 m h1 a b c).trans (h m h1 a b c)
