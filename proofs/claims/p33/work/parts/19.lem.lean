theorem runF_nat (g : Int → Int) (p : Nat) : runF g p = cn (g 5).toNat (p + 1) := rfl
theorem runF_0 {g : Int → Int} (h : wf g) : runF g 0 = 0 := by
  have h1 : (g 5).toNat.testBit 0 = false := by
    cases hb : (g 5).toNat.testBit 0 with
    | false => rfl
    | true => have := (h.2.2.2.2.2.1 0 hb).1; omega
  show ((cn (g 5).toNat 1 : Nat) : Int) = 0
  rw [cn_s, h1]
  rfl
theorem runF_s (g : Int → Int) (p : Nat) : runF g ((p + 1 : Nat) : Int) = runF g p + (if (g 5).toNat.testBit (p + 1) then 1 else 0) := by
  rw [runF_nat, runF_nat, cn_s (g 5).toNat (p + 1)]
  split <;> simp
theorem runF_step (g : Int → Int) (p : Nat) : runF g p ≤ runF g ((p + 1 : Nat) : Int) ∧ runF g ((p + 1 : Nat) : Int) ≤ runF g p + 1 := by
  rw [runF_s]
  split <;> omega
theorem runF_mono (g : Int → Int) {p q : Int} (h0 : 0 ≤ p) (h : p ≤ q) : runF g p ≤ runF g q := by
  have := cn_mono (g 5).toNat (m := p.toNat + 1) (n := q.toNat + 1) (by omega)
  unfold runF
  omega
theorem runF_last {g : Int → Int} (h : wf g) (hn : 0 < g 0) : runF g (g 0 - 1) = runsF g - 1 := by
  obtain ⟨a1, a2, a3, a4, a5, a6, -⟩ := h
  have h1 : cn (g 5).toNat 16 = cn (g 5).toNat ((g 0 - 1).toNat + 1) := cn_stop _ (by omega) (fun p h1 h2 => by
    cases hb : (g 5).toNat.testBit p with
    | false => rfl
    | true => have := a6 p hb; omega)
  unfold runF runsF
  rw [if_neg (by omega), h1]
  omega
theorem fpF_eq {g : Int → Int} {r : Int} {p : Nat} (hp : p ≤ 16) (h1 : ∀ q : Nat, q < p → runF g q < r) (h2 : r ≤ runF g p) : fpF g r = p := by
  have key : ∀ n : Nat, sm (fpE g r) n = if n ≤ p then n else p := by
    intro n
    induction n with
    | zero => simp [sm]
    | succ n ih =>
      rw [sm_s, ih, fpE]
      rcases Nat.lt_or_ge n p with h | h
      · rw [if_pos (h1 n h), if_pos (by omega), if_pos (by omega)]; omega
      · have : runF g p ≤ runF g n := runF_mono g (by omega) (by omega)
        rw [if_neg (show ¬ runF g n < r by omega), if_neg (show ¬ n + 1 ≤ p by omega)]
        split <;> omega
  unfold fpF
  rw [key 16]
  split <;> omega
/-- the first place of a run: it is there -/
theorem fpF_in {g : Int → Int} (h : wf g) {r : Int} (h0 : 0 ≤ r) (h1 : r < runsF g) : 0 ≤ fpF g r ∧ fpF g r < g 0 ∧ runF g (fpF g r) = r ∧ ∀ q : Int, 0 ≤ q → q < fpF g r → runF g q < r := by
  have hn : 0 < g 0 := by
    have := h.1
    unfold runsF at h1
    split at h1 <;> omega
  have hl := runF_last h hn
  have hN := h.1
  -- the least place with r at most
  have key : ∀ n : Nat, r ≤ runF g n → ∃ p : Nat, p ≤ n ∧ r ≤ runF g p ∧ ∀ q : Nat, q < p → runF g q < r := by
    intro n
    induction n with
    | zero => intro h; exact ⟨0, Nat.le_refl _, h, fun q hq => absurd hq (Nat.not_lt_zero q)⟩
    | succ n ih =>
      intro h
      by_cases h2 : r ≤ runF g n
      · obtain ⟨p, p1, p2, p3⟩ := ih h2
        exact ⟨p, by omega, p2, p3⟩
      · refine ⟨n + 1, Nat.le_refl _, h, fun q hq => ?_⟩
        have := runF_mono g (p := (q : Int)) (q := (n : Int)) (by omega) (by omega)
        omega
  obtain ⟨p, p1, p2, p3⟩ := key (g 0 - 1).toNat (by rw [show (((g 0 - 1).toNat : Nat) : Int) = g 0 - 1 by omega, hl]; omega)
  have he := fpF_eq (g := g) (r := r) (p := p) (by omega) p3 p2
  rw [he]
  refine ⟨by omega, by omega, ?_, fun q q0 q1 => ?_⟩
  · cases p with
    | zero =>
      have := runF_0 h
      have h3 : runF g ((0 : Nat) : Int) = 0 := this
      omega
    | succ p =>
      have h4 := p3 p (by omega)
      have h5 := runF_step g p
      omega
  · have := p3 q.toNat (by omega)
    rw [show ((q.toNat : Nat) : Int) = q by omega] at this
    exact this
theorem whyF_in (g : Int → Int) (r : Int) : 0 ≤ whyF g r ∧ whyF g r ≤ 2 := by
  unfold whyF
  split
  · omega
  · split <;> omega
theorem nobF_in {g : Int → Int} (h : wf g) : 0 ≤ nobF g ∧ nobF g ≤ 16 := by
  have h1 := sm_bd (f := nobE g) (c := 1) (n := (g 0).toNat) (fun p _ _ => by unfold nobE; split <;> omega)
  have := h.1
  unfold nobF
  omega
theorem plF_in {g : Int → Int} (h : wf g) (r : Int) : 0 ≤ plF g r ∧ plF g r ≤ 16 := by
  have h1 := sm_bd (f := plE g r) (c := 1) (n := (g 0).toNat) (fun p _ _ => by unfold plE; split <;> omega)
  have := h.1
  unfold plF
  omega
/-- jewels and cuts alone -/
def wq (g : Int → Int) : Prop := (0 ≤ g 0 ∧ g 0 ≤ 16) ∧ 0 ≤ g 5 ∧ g 5 < 65536
theorem wf.q {g : Int → Int} (h : wf g) : wq g := ⟨h.1, h.2.2.2.2.1⟩
theorem runF_lt {g : Int → Int} (hn : g 0 ≠ 0) {p : Int} (h : p < 16) : runF g p < runsF g := by
  have := cn_mono (g 5).toNat (m := p.toNat + 1) (n := 16) (by omega)
  unfold runF runsF
  rw [if_neg hn]
  omega
