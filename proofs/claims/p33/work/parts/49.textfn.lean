/-! THE TEXT: a command, its sign's number c, what follows it from q on -/
theorem fgV_in (t : Int → Int) (z p dg : Int) {lo hi : Int} (h0 : 0 ≤ lo) : fgV t z p dg lo hi = -1 ∨ (lo ≤ fgV t z p dg lo hi ∧ fgV t z p dg lo hi ≤ hi) := by
  unfold fgV
  (repeat' split) <;> omega
theorem fgP_in {t : Int → Int} {z p : Int} (dg lo hi : Int) (h : p ≤ z) : p ≤ fgP t z p dg lo hi ∧ fgP t z p dg lo hi ≤ z := by
  have d1 : dgF t z p = if p < z then t p - 48 else -1 := rfl
  have d2 : dgF t z (p + 1) = if p + 1 < z then t (p + 1) - 48 else -1 := rfl
  unfold fgP
  (repeat' split) <;> omega
def yes (v : Int) : Int := if v = -1 then 0 else 1
def kdF (t : Int → Int) (z q : Int) : Int := if q < z then t q - 97 else -1
def rjO (t : Int → Int) (z q : Int) : Int := if 0 ≤ kdF t z q ∧ kdF t z q ≤ 3 then yes (fgV t z (q + 1) 1 1 9) else 0
def rjP (t : Int → Int) (z q : Int) : Int := if 0 ≤ kdF t z q ∧ kdF t z q ≤ 3 then fgP t z (q + 1) 1 1 9 else q
/-- whether the command is right -/
def kO (c : Int) (t : Int → Int) (z q : Int) : Int :=
  if c = 106 then rjO t z q
  else if c = 98 ∨ c = 116 then yes (fgV t z q 2 0 15)
  else if c = 99 ∨ c = 109 then yes (fgV t z q 2 1 15)
  else if c = 103 then (if fgV t z q 2 0 15 = -1 then 0 else yes (fgV t z (fgP t z q 2 0 15) 1 0 2))
  else if c = 100 ∨ c = 115 then yes (fgV t z q 1 0 1)
  else if c = 114 then 1 else 0
/-- where it is behind the command, or where that is wrong -/
def kP (c : Int) (t : Int → Int) (z q : Int) : Int :=
  if c = 106 then rjP t z q
  else if c = 98 ∨ c = 116 then fgP t z q 2 0 15
  else if c = 99 ∨ c = 109 then fgP t z q 2 1 15
  else if c = 103 then (if fgV t z q 2 0 15 = -1 then fgP t z q 2 0 15 else fgP t z (fgP t z q 2 0 15) 1 0 2)
  else if c = 100 ∨ c = 115 then fgP t z q 1 0 1
  else if c = 114 then q else q - 1
/-- what a right command does -/
def kG (c : Int) (t : Int → Int) (z q : Int) (g : Int → Int) : Int → Int :=
  if c = 106 then addG g (kdF t z q) (fgV t z (q + 1) 1 1 9)
  else if c = 98 then brkG g (fgV t z q 2 0 15)
  else if c = 116 then takeG g (fgV t z q 2 0 15)
  else if c = 99 then cutG g (fgV t z q 2 1 15) 1
  else if c = 109 then cutG g (fgV t z q 2 1 15) 0
  else if c = 103 then giveG g (fgV t z q 2 0 15) (enO (fgV t z (fgP t z q 2 0 15) 1 0 2))
  else if c = 100 then dealG g (fgV t z q 1 0 1)
  else if c = 115 then setG g (fgV t z q 1 0 1)
  else if c = 114 then revF g else g
/-- whether it is left out -/
def kB (c : Int) (t : Int → Int) (z q : Int) (g : Int → Int) : Int :=
  if c = 106 then (if g 0 < 16 then 0 else 1)
  else if c = 98 then (if fgV t z q 2 0 15 < g 0 then 0 else 1)
  else if c = 116 then (if fgV t z q 2 0 15 < runsF g ∧ whyF g (fgV t z q 2 0 15) = 0 then 0 else 1)
  else if c = 99 ∨ c = 109 then (if fgV t z q 2 1 15 < g 0 then 0 else 1)
  else if c = 103 then (if fgV t z q 2 0 15 < runsF g then 0 else 1)
  else 0
theorem yes_in (v : Int) : 0 ≤ yes v ∧ yes v ≤ 1 := by unfold yes; split <;> omega
theorem kO_in (c : Int) (t : Int → Int) (z q : Int) : 0 ≤ kO c t z q ∧ kO c t z q ≤ 1 := by
  unfold kO rjO
  (repeat' split) <;> first | exact yes_in _ | exact ⟨by decide, by decide⟩
theorem kO_no {c : Int} (t : Int → Int) (z q : Int) (h : c ≠ 106 ∧ c ≠ 98 ∧ c ≠ 116 ∧ c ≠ 99 ∧ c ≠ 109 ∧ c ≠ 103 ∧ c ≠ 100 ∧ c ≠ 115 ∧ c ≠ 114) : kO c t z q = 0 ∧ kP c t z q = q - 1 := by
  unfold kO kP
  constructor <;> (repeat' split) <;> first | omega | rfl
theorem rjP_in {t : Int → Int} {z q : Int} (h : q ≤ z) : q ≤ rjP t z q ∧ rjP t z q ≤ z := by
  unfold rjP
  split
  · next hk =>
    have hq : q < z := by
      unfold kdF at hk
      split at hk <;> omega
    have := fgP_in (t := t) (p := q + 1) 1 1 9 (show q + 1 ≤ z by omega)
    omega
  · omega
theorem kP_in {c : Int} {t : Int → Int} {z q : Int} (h : q ≤ z) : q - 1 ≤ kP c t z q ∧ kP c t z q ≤ z ∧ (kO c t z q = 1 → q ≤ kP c t z q) := by
  have h1 := rjP_in (t := t) h
  have h2 := fgP_in (t := t) 2 0 15 h
  have h3 := fgP_in (t := t) 2 1 15 h
  have h4 := fgP_in (t := t) 1 0 1 h
  have h5 := fgP_in (t := t) 1 0 2 h2.2
  unfold kP kO
  (repeat' split) <;> refine ⟨by omega, by omega, ?_⟩ <;> intro _ <;> omega
theorem wf_kG {g : Int → Int} (hw : wf g) (c : Int) (t : Int → Int) (z q : Int) : wf (kG c t z q g) := by
  unfold kG
  (repeat' split) <;> first | exact hw | exact wf_addG hw _ _ | exact wf_brkG hw _ | exact wf_takeG hw _ | exact wf_cutG hw _ _ | exact wf_giveG hw _ _ | exact wf_dealG hw _ | exact wf_setG hw _ | exact wf_rev hw
/-- behind a number that was wrong, or not -/
theorem rjO_in (t : Int → Int) (z q : Int) : 0 ≤ rjO t z q ∧ rjO t z q ≤ 1 := by
  unfold rjO
  split
  · exact yes_in _
  · exact ⟨by decide, by decide⟩
theorem nz_01 {x : Int} (h : 0 ≤ x ∧ x ≤ 1) : narrow .boolean (.int (iI x)) = .int (iI x) := by
  rcases (show x = 0 ∨ x = 1 by omega) with rfl | rfl <;> decide
/-- where a text is wrong from p on; the row, and how many are left out, behind it -/
def rtE (t : Int → Int) (z : Int) : Nat → Int → Int
  | 0, _ => -1
  | n + 1, p => if p < z then (if kO (t p) t z (p + 1) = 1 then rtE t z n (kP (t p) t z (p + 1)) else kP (t p) t z (p + 1)) else -1
def rtG (t : Int → Int) (z : Int) : Nat → Int → (Int → Int) → Int → Int
  | 0, _, g => g
  | n + 1, p, g => if p < z then rtG t z n (kP (t p) t z (p + 1)) (kG (t p) t z (p + 1) g) else g
def rtB (t : Int → Int) (z : Int) : Nat → Int → (Int → Int) → Int
  | 0, _, _ => 0
  | n + 1, p, g => if p < z then kB (t p) t z (p + 1) g + rtB t z n (kP (t p) t z (p + 1)) (kG (t p) t z (p + 1) g) else 0
theorem rtE_end (t : Int → Int) {z p : Int} (h : ¬ p < z) : ∀ n : Nat, rtE t z n p = -1
  | 0 => rfl
  | n + 1 => by rw [rtE, if_neg h]
theorem rtG_end (t : Int → Int) {z p : Int} (h : ¬ p < z) (g : Int → Int) : ∀ n : Nat, rtG t z n p g = g
  | 0 => rfl
  | n + 1 => by rw [rtG, if_neg h]
theorem rtB_end (t : Int → Int) {z p : Int} (h : ¬ p < z) (g : Int → Int) : ∀ n : Nat, rtB t z n p g = 0
  | 0 => rfl
  | n + 1 => by rw [rtB, if_neg h]
def errF (t : Int → Int) (z : Int) : Int := if z = 0 ∨ t 0 ≠ 78 then 0 else rtE t z 120 1
def ldG (t : Int → Int) (z : Int) : Int → Int := rtG t z 120 1 newM
def ldB (t : Int → Int) (z : Int) : Int := rtB t z 120 1 newM
theorem rtB_in (t : Int → Int) (z : Int) : ∀ (n : Nat) (p : Int) (g : Int → Int), 0 ≤ rtB t z n p g ∧ rtB t z n p g ≤ n
  | 0, _, _ => ⟨Int.le_refl _, Int.le_refl _⟩
  | n + 1, p, g => by
    have h := rtB_in t z n (kP (t p) t z (p + 1)) (kG (t p) t z (p + 1) g)
    have h2 : 0 ≤ kB (t p) t z (p + 1) g ∧ kB (t p) t z (p + 1) g ≤ 1 := by
      unfold kB
      (repeat' split) <;> exact ⟨by decide, by decide⟩
    rw [rtB]
    split <;> omega
theorem errF_in {t : Int → Int} {z : Int} (h0 : 0 ≤ z) : -1 ≤ errF t z ∧ errF t z ≤ z := by
  have key : ∀ (n : Nat) (p : Int), 1 ≤ p → p ≤ z → -1 ≤ rtE t z n p ∧ rtE t z n p ≤ z := by
    intro n
    induction n with
    | zero => intro p _ _; exact ⟨Int.le_refl _, by show (-1 : Int) ≤ z; omega⟩
    | succ n ih =>
      intro p p0 p1
      rw [rtE]
      split
      · next hp =>
        have h3 := kP_in (c := t p) (t := t) (z := z) (q := p + 1) (by omega)
        split
        · next ho => have := h3.2.2 ho; exact ih _ (by omega) h3.2.1
        · omega
      · omega
  unfold errF
  split
  · omega
  · next h => exact key 120 1 (by decide) (by omega)
def tQ (S S' : SS) : Prop := (∀ c : Int, c ≠ 3 → c ≠ 4 → S' 82 c = S 82 c) ∧ ∀ m : Nat, m ≠ 85 → m ≠ 82 → S' m = S m
theorem giveG_of {g : Int → Int} {r o : Int} (h : (0 ≤ r ∧ r < runsF g) ∧ (o = -1 ∨ o = 0 ∨ o = 1)) : giveG g r o = giveF g r o := if_pos h
