/-! THE REFERENCE'S CHANGING METHODS: the diary, and what a call that may throw leaves -/
def shD (d : Int → Int) (k : Nat) : Int → Int := fun b => if 0 ≤ b ∧ b < k then d (b + 54) else d b
def rmB (d : Int → Int) (a : Int) : Int → Int := if a = 14 then shD d 702 else d
def rmA (a : Int) : Int := if a = 14 then 13 else a
/-- what remember leaves: the diary has now at its end, the oldest is gone where it was full -/
def rmU (S : SS) : SS := us (us S 86 (cpF (rmB (S 86) (S 82 2)) (S 84) 0 (54 * rmA (S 82 2)) 54)) 82 (uq (S 82) 2 (rmA (S 82 2) + 1))
theorem shD_0 (d : Int → Int) : shD d 0 = d := by
  funext b; exact if_neg (by omega)
theorem shD_s (d : Int → Int) (k : Nat) : uq (shD d k) k (shD d k (k + 54)) = shD d (k + 1) := by
  funext b
  by_cases h : b = k
  · subst h
    rw [uq_eq]
    unfold shD
    rw [if_neg (by omega), if_pos (by omega)]
  · rw [uq_ne _ _ h]
    unfold shD
    by_cases h2 : 0 ≤ b ∧ b < k
    · rw [if_pos h2, if_pos (by omega)]
    · rw [if_neg h2, if_neg (by omega)]
theorem uq_uq (g : Int → Int) (c x y : Int) : uq (uq g c x) c y = uq g c y := by
  funext b
  by_cases h : b = c
  · subst h; rw [uq_eq, uq_eq]
  · rw [uq_ne _ _ h, uq_ne _ _ h, uq_ne _ _ h]
theorem rmU_84 (S : SS) : mw (rmU S) 84 = mw S 84 := rfl
def pX (S : SS) (c x : Int) (G : Int → Int) : Option Value → SS → Prop := pV (.int (iI (if c = 0 then x else 0))) (fun S' => (c = 0 → mw S' 84 = G ∧ fm (rmU (us S 82 (uq (S 82) 0 0))) S' 84) ∧ (c ≠ 0 → S' = us S 82 (uq (S 82) 0 c)))
theorem pX_0 {S : SS} {c x : Int} {G : Int → Int} (h : c = 0) {y : Int} (hy : x = y) {S' : SS} (hG : mw S' 84 = G) (hf : fm (rmU (us S 82 (uq (S 82) 0 0))) S' 84) : pX S c x G (some (.int (iI y))) S' := by
  subst h; subst hy; exact ⟨rfl, fun _ => ⟨hG, hf⟩, fun z => absurd rfl z⟩
theorem pX_n {S : SS} {c x : Int} {G : Int → Int} (k : Int) (h : c = k) (hk : k ≠ 0) : pX S c x G (some (.int (iI 0))) (us S 82 (uq (S 82) 0 k)) := by
  subst h; exact ⟨by rw [if_neg hk], fun z => absurd z hk, fun _ => rfl⟩
/-- what a reading method leaves that tries on the trial row -/
def pT (S : SS) (c x : Int) : Option Value → SS → Prop := pV (.int (iI (if c = 0 then x else 0))) (fun S' => fm (us S 82 (uq (S 82) 0 c)) S' 85)
theorem pT_0 {S : SS} {c x : Int} (h : c = 0) {y : Int} (hy : x = y) {S' : SS} (hf : fm (us S 82 (uq (S 82) 0 0)) S' 85) : pT S c x (some (.int (iI y))) S' := by
  subst h; subst hy; exact ⟨rfl, hf⟩
theorem pT_n {S : SS} {c x : Int} (k : Int) (h : c = k) (hk : k ≠ 0) : pT S c x (some (.int (iI 0))) (us S 82 (uq (S 82) 0 k)) := by
  subst h; exact ⟨by rw [if_neg hk], fm.rf⟩
theorem mw_cp (S : SS) : mw (us S 85 (cpF (S 85) (S 84) 0 0 54)) 85 = mw S 84 := by
  funext b
  by_cases h : 0 ≤ b ∧ b < 54
  · rw [mw_e _ _ h.1 h.2, mw_e _ _ h.1 h.2, us_eq, cpF, if_pos (by omega)]
    congr 1; omega
  · rw [mw_out _ _ (by omega), mw_out _ _ (by omega)]
/-- bestRun: the best run and the least gap, the first n runs tried -/
def brT (g : Int → Int) (n : Nat) : Int := if whyF g n = 0 then gapF (giveF g n (g 2)) else -1
def brG (g : Int → Int) : Nat → Int × Int
  | 0 => (-1, 0)
  | n + 1 => if brT g n ≠ -1 ∧ ((brG g n).1 = -1 ∨ brT g n < (brG g n).2) then ((n : Int), brT g n) else brG g n
theorem brG_in {g : Int → Int} (h : wf g) (n : Nat) : (-1 ≤ (brG g n).1 ∧ (brG g n).1 < n) ∧ 0 ≤ (brG g n).2 ∧ (brG g n).2 ≤ 576 := by
  induction n with
  | zero => exact ⟨⟨(by decide : (-1 : Int) ≤ -1), (by decide : (-1 : Int) < 0)⟩, (by decide : (0 : Int) ≤ 0), (by decide : (0 : Int) ≤ 576)⟩
  | succ n ih =>
    rw [brG]
    split
    · next hh =>
      refine ⟨⟨by simp only []; omega, by simp only []; omega⟩, ?_⟩
      have h3 := hh.1
      simp only []
      unfold brT at h3 ⊢
      split
      · exact gapF_in (wf_give h n (o := g 2) (by have := h.2.2.1; omega))
      · next h4 => rw [if_neg h4] at h3; omega
    · exact ⟨⟨ih.1.1, by omega⟩, ih.2⟩
theorem brG_s1 (g : Int → Int) (n : Nat) : (brG g (n + 1)).1 = if brT g n ≠ -1 ∧ ((brG g n).1 = -1 ∨ brT g n < (brG g n).2) then (n : Int) else (brG g n).1 := by
  rw [brG]; split <;> rfl
theorem brG_s2 (g : Int → Int) (n : Nat) : (brG g (n + 1)).2 = if brT g n ≠ -1 ∧ ((brG g n).1 = -1 ∨ brT g n < (brG g n).2) then brT g n else (brG g n).2 := by
  rw [brG]; split <;> rfl
