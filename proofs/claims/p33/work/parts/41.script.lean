/-! SCRIPTS: a command on the trial row -/
def enO (e : Int) : Int := if e = 2 then -1 else e
noncomputable def cmB (h f : Int) (g : Int → Int) : Int :=
  if h = 1 then (if f % 100 < 2 ∧ 1 ≤ f / 100 ∧ f / 100 ≤ g 0 - 1 then 1 else 0)
  else if h = 2 then (if f % 100 < 3 ∧ 0 ≤ f / 100 ∧ f / 100 ≤ runsF g - 1 then 1 else 0)
  else if h = 3 then (if f % 100 = 0 ∧ (0 ≤ f / 100 ∧ f / 100 ≤ runsF g - 1) ∧ whyF g (f / 100) = 0 then 1 else 0)
  else if h = 4 then (if f < 2 then 1 else 0)
  else if h = 5 then (if f % 100 = 0 ∧ 0 ≤ f / 100 ∧ f / 100 ≤ g 0 - 1 then 1 else 0)
  else if h = 6 then (if f < 100 ∧ gapF g ≤ f then 1 else 0)
  else if h = 7 then (if f < 10 ∧ fewF g ≠ -1 ∧ fewF g ≤ f then 1 else 0)
  else if h = 8 then (if f / 10 % 10 = 0 ∧ f % 10 < 3 ∧ (0 ≤ f / 100 ∧ f / 100 ≤ g 0 - 1) ∧ g (38 + f / 100) = (if f % 10 = 2 then -1 else f % 10) then 1 else 0)
  else if h = 9 then (if f / 1000 < 2 ∧ f / 100 % 10 < 4 ∧ f % 100 ≤ hasF g (f / 1000) (f / 100 % 10) then 1 else 0)
  else 0
def cmG (h f : Int) (g : Int → Int) : Int → Int :=
  if h = 1 then (if f % 100 < 2 then cutG g (f / 100) (f % 100) else g)
  else if h = 2 then (if f % 100 < 3 then giveG g (f / 100) (enO (f % 100)) else g)
  else if h = 3 then (if f % 100 = 0 ∧ 0 ≤ f / 100 ∧ f / 100 < runsF g then takeM g (f / 100) else g)
  else if h = 4 then (if f < 2 then dealG g f else g)
  else if h = 5 then (if f % 100 = 0 then brkG g (f / 100) else g)
  else g
theorem wf_cmG {g : Int → Int} (hw : wf g) (h f : Int) : wf (cmG h f g) := by
  unfold cmG
  (repeat' split) <;> first | exact hw | exact wf_cutG hw _ _ | exact wf_giveG hw _ _ | exact wf_takeM hw _ | exact wf_dealG hw _ | exact wf_brkG hw _
def f8 (S S' : SS) : Prop := ∀ m : Nat, m ≠ 85 → m ≠ 89 → m ≠ 90 → S' m = S m
theorem f8_r {S : SS} : f8 S S := fun _ _ _ _ => rfl
theorem f8_m {S S' : SS} (h : fm S S' 85) : f8 S S' := fun m h5 _ _ => h m h5
theorem f8_d {S : SS} {D T : Int → Int} : f8 S (us (us S 89 D) 90 T) := fun m _ h9 h0 => by rw [us_a h0, us_a h9]
theorem f8_t {S S1 S2 : SS} (h1 : f8 S S1) (h2 : f8 S1 S2) : f8 S S2 := fun m a b c => (h2 m a b c).trans (h1 m a b c)
theorem fz_8 {S S1 : SS} {c : Int} (h : f8 (us S 82 (uq (S 82) 0 c)) S1) : fz S c S1 := h
theorem runsF_pos {g : Int → Int} (h : g 0 ≠ 0) : 1 ≤ runsF g := by unfold runsF; rw [if_neg h]; omega
theorem cutF_0 (g : Int → Int) (p : Int) (on : Prop) [Decidable on] : cutF g p on 0 = g 0 := by
  unfold cutF
  split
  · exact uq_ne _ _ (by decide)
  · unfold cutOffF
    split
    · rw [giveF_lo _ _ _ (by decide)]; exact uq_ne _ _ (by decide)
    · rfl
theorem cutF_r {g : Int → Int} (p : Int) (on : Prop) [Decidable on] (h : 0 < g 0) : 1 ≤ runsF (cutF g p on) := runsF_pos (by rw [cutF_0]; omega)
theorem cutF_iff {g : Int → Int} {p : Int} {a b : Prop} [Decidable a] [Decidable b] (h : a ↔ b) : cutF g p a = cutF g p b := by
  unfold cutF
  by_cases ha : a
  · rw [if_pos ha, if_pos (h.mp ha)]
  · rw [if_neg ha, if_neg (fun z => ha (h.mpr z))]
