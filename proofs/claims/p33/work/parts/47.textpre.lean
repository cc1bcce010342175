/-! THE TEXT: figures behind a sign -/
def dgF (t : Int → Int) (z p : Int) : Int := if p < z then t p - 48 else -1
/-- one figure, or two: the number, or -1 -/
def fgV (t : Int → Int) (z p dg lo hi : Int) : Int :=
  if dg = 2 then (if (0 ≤ dgF t z p ∧ dgF t z p ≤ 9) ∧ 10 * dgF t z p ≤ hi ∧ lo ≤ 10 * dgF t z p + 9 then (if (0 ≤ dgF t z (p + 1) ∧ dgF t z (p + 1) ≤ 9) ∧ 10 * dgF t z p + dgF t z (p + 1) ≤ hi ∧ lo ≤ 10 * dgF t z p + dgF t z (p + 1) then 10 * dgF t z p + dgF t z (p + 1) else -1) else -1)
  else if (0 ≤ dgF t z p ∧ dgF t z p ≤ 9) ∧ dgF t z p ≤ hi ∧ lo ≤ dgF t z p then dgF t z p else -1
/-- where it is then -/
def fgP (t : Int → Int) (z p dg lo hi : Int) : Int :=
  if dg = 2 then (if (0 ≤ dgF t z p ∧ dgF t z p ≤ 9) ∧ 10 * dgF t z p ≤ hi ∧ lo ≤ 10 * dgF t z p + 9 then (if (0 ≤ dgF t z (p + 1) ∧ dgF t z (p + 1) ≤ 9) ∧ 10 * dgF t z p + dgF t z (p + 1) ≤ hi ∧ lo ≤ 10 * dgF t z p + dgF t z (p + 1) then p + 2 else p + 1) else p)
  else if (0 ≤ dgF t z p ∧ dgF t z p ≤ 9) ∧ dgF t z p ≤ hi ∧ lo ≤ dgF t z p then p + 1 else p
