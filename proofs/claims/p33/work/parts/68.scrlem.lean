/-! SCRIPTS of the class -/
def fdv (S S' : SS) : Prop := (∀ m : Nat, m ≠ 77 → m ≠ 78 → m ≠ 79 → S' m = S m) ∧ S' 78 0 = 0
noncomputable def dwB (g : Int → Int) (lim : Int) : Int := if fbV g lim = -1 then 0 else 1
theorem dwB_in (g : Int → Int) (lim : Int) : 0 ≤ dwB g lim ∧ dwB g lim ≤ 1 := by unfold dwB; split <;> omega
theorem uq_1 (g : Int → Int) : uq g 1 (g 1) = g := uq_self g 1
theorem wd_0 {S : SS} {g : Int → Int} (h : wd S g) (hn : 0 ≤ g 0) : S 78 0 = 0 := by
  have := h.2.2 0 (by omega)
  exact this.trans pz_0
def ccG (h f : Int) (g : Int → Int) : Int → Int :=
  if h = 1 then (if f % 100 < 2 then cutG g (f / 100) (f % 100) else g)
  else if h = 2 then (if f % 100 < 3 then giveG g (f / 100) (enO (f % 100)) else g)
  else if h = 3 then (if f % 100 = 0 then takeG g (f / 100) else g)
  else if h = 4 then (if f < 2 then dealG g f else g)
  else if h = 5 then (if f % 100 = 0 then brkG g (f / 100) else g)
  else g
theorem wf_ccG {g : Int → Int} (hw : wf g) (h f : Int) : wf (ccG h f g) := by
  unfold ccG
  (repeat' split) <;> first | exact hw | exact wf_cutG hw _ _ | exact wf_giveG hw _ _ | exact wf_takeG hw _ | exact wf_dealG hw _ | exact wf_brkG hw _
theorem pw5_s (s : Int) (k : Nat) : s / pw5 k / 100000 = s / pw5 (k + 1) := by
  have hp : 0 ≤ pw5 k := by
    induction k with
    | zero => decide
    | succ k ih => rw [pw5]; omega
  rw [pw5, Int.ediv_ediv_of_nonneg hp]
theorem few_lim (g : Int → Int) : fbV g 6 = fewF g := by
  have := isFe_in (isFe_ex g)
  unfold fbV
  split <;> omega
theorem dw_iff {g : Int → Int} {lim : Int} : dwB g lim = 1 ↔ fewF g ≠ -1 ∧ fewF g ≤ lim := by
  have := isFe_in (isFe_ex g)
  unfold dwB fbV
  (repeat' split) <;> constructor <;> intro h <;> first | omega | (exact absurd h (by decide))
