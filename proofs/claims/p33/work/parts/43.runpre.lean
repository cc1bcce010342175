def pw5 : Nat → Int
  | 0 => 1
  | k + 1 => pw5 k * 100000
theorem pw5_in (k : Nat) (h : k ≤ 3) : 1 ≤ pw5 k ∧ pw5 k ≤ 1000000000000000 := by
  rcases (show k = 0 ∨ k = 1 ∨ k = 2 ∨ k = 3 by omega) with h | h | h | h <;> subst h <;> decide
theorem pw5_d {j : Nat} (h : 0 < j) : pw5 j / 100000 = pw5 (j - 1) := by
  obtain ⟨i, rfl⟩ : ∃ i, j = i + 1 := ⟨j - 1, by omega⟩
  rw [pw5, show i + 1 - 1 = i by omega]; omega
/-- the group of a script that has so many behind it -/
def grp (s : Int) (i : Nat) : Int := s / pw5 i % 100000
/-- the first command that fails, of those that are left -/
noncomputable def rsA (s n : Int) : Nat → (Int → Int) → Int
  | 0, _ => -1
  | j + 1, g => if cmB (grp s j / 10000) (grp s j % 10000) g = 0 then n - ((j : Int) + 1) else rsA s n j (cmG (grp s j / 10000) (grp s j % 10000) g)
theorem rsA_s {s n : Int} {j : Nat} (h : 0 < j) (g : Int → Int) : rsA s n j g = if cmB (grp s (j - 1) / 10000) (grp s (j - 1) % 10000) g = 0 then n - (j : Int) else rsA s n (j - 1) (cmG (grp s (j - 1) / 10000) (grp s (j - 1) % 10000) g) := by
  obtain ⟨i, rfl⟩ : ∃ i, j = i + 1 := ⟨j - 1, by omega⟩
  rw [rsA, show i + 1 - 1 = i by omega]; rfl
theorem cmB_in (h f : Int) (g : Int → Int) : 0 ≤ cmB h f g ∧ cmB h f g ≤ 1 := by
  unfold cmB
  (repeat' split) <;> exact ⟨by decide, by decide⟩
def cd_run (n s : Int) : Int := if (1 ≤ n ∧ n ≤ 3) ∧ 0 ≤ s ∧ s ≤ pw5 n.toNat - 1 then 0 else 1
