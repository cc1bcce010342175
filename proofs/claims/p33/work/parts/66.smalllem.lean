/-! HISTORY, TURNS, SIGNS: what the class's small ones do -/
def hxN (a : Int) : Int := if a + 1 < 14 then a + 1 else 0
def hxC (a : Int) : Int := if 14 < a + 1 then 14 else a + 1
def hxL (a : Int) : Int := if 0 < a then a - 1 else 13
def rmP (S S' : SS) : Prop := vw S' (4 + (S 75 0).toNat) = vw S 0 ∧ (S' 75 0 = hxN (S 75 0) ∧ S' 75 1 = hxC (S 75 1)) ∧ ∀ m : Nat, m ≠ 75 → (m < 4 * (4 + (S 75 0).toNat) ∨ 4 * (4 + (S 75 0).toNat) + 4 ≤ m) → S' m = S m
def tbP (S S' : SS) : Prop := vw S' 0 = vw S (4 + (hxL (S 75 0)).toNat) ∧ (S' 75 0 = hxL (S 75 0) ∧ S' 75 1 = S 75 1 - 1) ∧ ∀ m : Nat, m ≠ 75 → 4 ≤ m → S' m = S m
def mvT (g : Int → Int) (q : Int) : Int → Int := if q / 16 % 4 = 0 then brkG g (q % 16) else swapG g (q % 16) (q / 64 % 16)
def tuT (g : Int → Int) (r : Int) : Int → Int :=
  if r % 16 ≤ 3 then addG g (r / 16 % 4) (1 + r / 16 / 4 % 9)
  else if r % 16 ≤ 7 then cutG g (1 + r / 16 % 15) (if r / 16 / 16 % 4 = 0 then 0 else 1)
  else if r % 16 ≤ 9 then giveG g (r / 16 % 16) (r / 16 / 16 % 3 - 1)
  else if r % 16 ≤ 12 then takeG g (r / 16 % 16)
  else if r % 16 = 13 then dealG g (r / 16 % 2)
  else if r % 16 = 14 then mvT g (r / 16)
  else if r / 16 / 2 % 2 = 0 then setG g (r / 16 % 2) else revF g
theorem wf_mvT {g : Int → Int} (hw : wf g) (q : Int) : wf (mvT g q) := by
  unfold mvT
  split
  · exact wf_brkG hw _
  · exact wf_swapG hw _ _
theorem wf_tuT {g : Int → Int} (hw : wf g) (r : Int) : wf (tuT g r) := by
  unfold tuT
  (repeat' split) <;> first | exact wf_addG hw _ _ | exact wf_cutG hw _ _ | exact wf_giveG hw _ _ | exact wf_takeG hw _ | exact wf_dealG hw _ | exact wf_mvT hw _ | exact wf_setG hw _ | exact wf_rev hw
def plT (g : Int → Int) (z : Int) : Nat → Int → Int
  | 0 => g
  | k + 1 => tuT (plT g z k) (rnd (siX z (k + 1)))
theorem wf_plT {g : Int → Int} (hw : wf g) (z : Int) : ∀ k : Nat, wf (plT g z k)
  | 0 => hw
  | k + 1 => wf_tuT (wf_plT hw z k) _
def sgF (t : Int → Int) (z i : Int) : Int := if i < z then t i else 0
theorem sgF_in {t : Int → Int} {z i : Int} (ht : ∀ c : Int, 0 ≤ c → c < 120 → 0 ≤ t c ∧ t c ≤ 255) (h0 : 0 ≤ i) (hz : z ≤ 120) : 0 ≤ sgF t z i ∧ sgF t z i ≤ 255 := by
  unfold sgF
  split
  · exact ht i h0 (by omega)
  · omega
/-- the form that a letter has: the text's place, or none -/
def fmI (c : Int) : Int := if c = 106 then 1 else if c = 98 then 2 else if c = 99 then 3 else if c = 109 then 3 else if c = 103 then 4 else if c = 116 then 2 else if c = 100 then 5 else if c = 115 then 5 else if c = 114 then 0 else -1
theorem fmI_in (c : Int) : -1 ≤ fmI c ∧ fmI c < 6 := by
  unfold fmI
  (repeat' split) <;> omega
def fmR (Y : gY) (c : Int) : Value := if fmI c = -1 then .null else .ref (yK Y (fmI c).toNat)
theorem fmR_n {Y : gY} {c : Int} (h : fmI c = -1) : fmR Y c = .null := if_pos h
theorem fmR_r {Y : gY} {c : Int} (h : fmI c ≠ -1) : fmR Y c = .ref (yK Y (fmI c).toNat) := if_neg h
def fitF (f s b : Int) : Int :=
  if f = 107 then (if 97 ≤ s ∧ s ≤ 100 then 1 else 0)
  else if f = 119 then (if 49 ≤ s ∧ s ≤ 57 then 1 else 0)
  else if f = 117 then (if 48 ≤ s ∧ s ≤ (if b = 49 then 53 else 57) then 1 else 0)
  else if f = 112 then (if b = 49 then (if 48 ≤ s ∧ s ≤ 53 then 1 else 0) else (if 49 ≤ s ∧ s ≤ 57 then 1 else 0))
  else if f = 111 then (if 48 ≤ s ∧ s ≤ 50 then 1 else 0)
  else (if s = 48 ∨ s = 49 then 1 else 0)
theorem fitF_in (f s b : Int) : 0 ≤ fitF f s b ∧ fitF f s b ≤ 1 := by
  unfold fitF
  (repeat' split) <;> exact ⟨by decide, by decide⟩
theorem bI_eq {P : Prop} [Decidable P] {x : Int} (h1 : P → x = 1) (h0 : ¬ P → x = 0) : bI P = iI x := by
  by_cases h : P
  · rw [bI_t h, h1 h]; rfl
  · rw [bI_f h, h0 h]; rfl
