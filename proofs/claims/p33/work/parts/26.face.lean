/-! THE FACE: which exception (0: none), and the answer, of each reading method, out of the row -/
def cd_append (len c : Int) : Int := if 0 ≤ c ∧ c ≤ 255 then (if len = 120 then 2 else 0) else 1
def cd_about (w : Int) : Int := if 0 ≤ w ∧ w ≤ 9 then 0 else 1
def vl_about (g : Int → Int) (w : Int) : Int := if w = 0 then g 0 else if w = 1 then g 1 else if w = 2 then (cn (g 5).toNat 16 : Nat) else if w = 3 then runsF g else if w = 4 then gapF g else if w = 5 then (if nobF g = 0 ∧ gapF g = 0 then 1 else 0) else if w = 6 then g 2 else if w = 7 then nobF g else if w = 8 then g 3 else g 4
def cd_jewelOf (g : Int → Int) (j w : Int) : Int := if 0 ≤ j ∧ j ≤ g 0 - 1 then (if 0 ≤ w ∧ w ≤ 2 then 0 else 2) else 1
def vl_jewelOf (g : Int → Int) (j w : Int) : Int := if w = 0 then g (6 + j) else if w = 1 then g (22 + j) else (j - g 1 + g 0) % g 0
def cd_placeOf (g : Int → Int) (p w : Int) : Int := if 0 ≤ p ∧ p ≤ g 0 - 1 then (if 0 ≤ w ∧ w ≤ 3 then 0 else 2) else 1
def vl_placeOf (g : Int → Int) (p w : Int) : Int := if w = 0 then jatF g p else if w = 1 then g (38 + p) else if w = 2 then runF g p else (if (g 5).toNat.testBit p.toNat = true then 1 else 0)
def cd_runOf (g : Int → Int) (r w : Int) : Int := if 0 ≤ r ∧ r ≤ runsF g - 1 then (if 0 ≤ w ∧ w ≤ 3 then 0 else 2) else 1
def vl_runOf (g : Int → Int) (r w : Int) : Int := if w = 0 then fpF g r else if w = 1 then plF g r else if w = 2 then g (38 + fpF g r) else rvF g r
def cd_has (s k : Int) : Int := if 0 ≤ s ∧ s ≤ 1 then (if 0 ≤ k ∧ k ≤ 3 then 0 else 1) else 1
def cd_jewel (g : Int → Int) (k w : Int) : Int := if 0 ≤ k ∧ k ≤ 3 then (if 1 ≤ w ∧ w ≤ 9 then (if g 0 < 16 then 0 else 3) else 2) else 1
def cd_exchange (g : Int → Int) (i j : Int) : Int := if (0 ≤ i ∧ i ≤ g 0 - 1) ∧ 0 ≤ j ∧ j ≤ g 0 - 1 then 0 else 1
def cd_breakAt (g : Int → Int) (j : Int) : Int := if 0 ≤ j ∧ j ≤ g 0 - 1 then 0 else 1
def cd_cut (g : Int → Int) (p : Int) : Int := if 1 ≤ p ∧ p ≤ g 0 - 1 then 0 else 1
def cd_give (g : Int → Int) (r o : Int) : Int := if 0 ≤ r ∧ r ≤ runsF g - 1 then (if -1 ≤ o ∧ o ≤ 1 then 0 else 2) else 1
def cd_take (g : Int → Int) (r : Int) : Int := if 0 ≤ r ∧ r ≤ runsF g - 1 then 0 else 1
def cd_01 (s : Int) : Int := if 0 ≤ s ∧ s ≤ 1 then 0 else 1
/-- the reference's end: its answer, and what it tells as thrown -/
def pC (S : SS) (c x : Int) : Option Value → SS → Prop := pV (.int (iI (if c = 0 then x else 0))) (fun S' => S' = us S 82 (uq (S 82) 0 c))
theorem pC_0 {S : SS} {c x : Int} (h : c = 0) {y : Int} (hy : x = y) : pC S c x (some (.int (iI y))) (us S 82 (uq (S 82) 0 0)) := by
  subst h; subst hy; exact ⟨rfl, rfl⟩
theorem pC_n {S : SS} {c x : Int} (k : Int) (h : c = k) (hk : k ≠ 0) : pC S c x (some (.int (iI 0))) (us S 82 (uq (S 82) 0 k)) := by
  subst h; exact ⟨by rw [if_neg hk], rfl⟩
theorem us82_84 (S : SS) (c x : Int) : mw (us S 82 (uq (S 82) c x)) 84 = mw S 84 := by
  funext b; unfold mw; rw [us_a (show 84 ≠ 82 by decide)]
theorem mw_fm {S S' : SS} {n m : Nat} (h : fm S S' n) (hm : m ≠ n) : mw S' m = mw S m := by
  funext b; unfold mw; rw [h m hm]
/-- places of a run are side by side: those from the first on, as many as it has -/
theorem plF_run {g : Int → Int} (h : wf g) {r : Int} (h0 : 0 ≤ r) (h1 : r ≤ runsF g - 1) : fpF g r + plF g r ≤ g 0 ∧ ∀ q : Int, 0 ≤ q → q < g 0 → (runF g q = r ↔ fpF g r ≤ q ∧ q < fpF g r + plF g r) := by
  obtain ⟨f0, f1, f2, f3⟩ := fpF_in h (r := r) h0 (by omega)
  have hN := h.1
  -- the places of the run, counted up to n
  have key : ∀ n : Nat, (n : Int) ≤ g 0 → ∃ e : Int, fpF g r ≤ e ∧ sm (plE g r) n = (if fpF g r < n then (if e < n then e else n) - fpF g r else 0) ∧ ∀ q : Int, 0 ≤ q → q < n → (runF g q = r ↔ fpF g r ≤ q ∧ q < e) := by
    intro n
    induction n with
    | zero => intro _; exact ⟨fpF g r, Int.le_refl _, by rw [sm, if_neg (by omega)], fun q q0 q1 => by omega⟩
    | succ n ih =>
      intro hn
      obtain ⟨e, e0, e1, e2⟩ := ih (by omega)
      rcases Int.lt_trichotomy (n : Int) (fpF g r) with hlt | heq | hgt
      · have h3 := f3 n (by omega) hlt
        refine ⟨e, e0, ?_, fun q q0 q1 => ?_⟩
        · rw [sm_s, e1, plE, if_neg (show ¬ fpF g r < n by omega), if_neg (show ¬ runF g n = r by omega), if_neg (show ¬ fpF g r < ((n + 1 : Nat) : Int) by omega)]
          omega
        · by_cases hq : q = n
          · subst hq; omega
          · exact e2 q q0 (by omega)
      · have h3 : runF g n = r := by rw [heq]; exact f2
        refine ⟨(n : Int) + 1, by omega, ?_, fun q q0 q1 => ?_⟩
        · rw [sm_s, e1, plE, if_neg (show ¬ fpF g r < n by omega), if_pos h3, if_pos (show fpF g r < ((n + 1 : Nat) : Int) by omega), if_neg (show ¬ (n : Int) + 1 < ((n + 1 : Nat) : Int) by omega)]
          omega
        · by_cases hq : q = n
          · subst hq; constructor <;> intro _ <;> first | exact h3 | omega
          · have h4 := f3 q q0 (by omega)
            constructor <;> intro _ <;> omega
      · by_cases h3 : runF g n = r
        · -- still in the run: all before it, from the first on, are in it
          have hall : ¬ e < n := fun hen => by
            have h5 : runF g e = r := by
              have m1 := runF_mono g (p := fpF g r) (q := e) f0 e0
              have m2 := runF_mono g (p := e) (q := (n : Int)) (by omega) (by omega)
              omega
            have h6 := (e2 e (by omega) hen).mp h5
            omega
          refine ⟨(n : Int) + 1, by omega, ?_, fun q q0 q1 => ?_⟩
          · rw [sm_s, e1, plE, if_pos hgt, if_neg hall, if_pos h3, if_pos (show fpF g r < ((n + 1 : Nat) : Int) by omega), if_neg (show ¬ (n : Int) + 1 < ((n + 1 : Nat) : Int) by omega)]
            omega
          · by_cases hq : q = n
            · subst hq; constructor <;> intro _ <;> first | exact h3 | omega
            · have h4 := e2 q q0 (by omega)
              constructor <;> intro h5 <;> first | (have := h4.mp h5; omega) | exact h4.mpr (by omega)
        · by_cases hen : e < n
          · refine ⟨e, e0, ?_, fun q q0 q1 => ?_⟩
            · rw [sm_s, e1, plE, if_pos hgt, if_pos hen, if_neg h3, if_pos (show fpF g r < ((n + 1 : Nat) : Int) by omega), if_pos (show e < ((n + 1 : Nat) : Int) by omega)]
              omega
            · by_cases hq : q = n
              · subst hq; constructor <;> intro h5 <;> first | exact absurd h5 h3 | omega
              · exact e2 q q0 (by omega)
          · refine ⟨n, by omega, ?_, fun q q0 q1 => ?_⟩
            · rw [sm_s, e1, plE, if_pos hgt, if_neg hen, if_neg h3, if_pos (show fpF g r < ((n + 1 : Nat) : Int) by omega), if_pos (show (n : Int) < ((n + 1 : Nat) : Int) by omega)]
              omega
            · by_cases hq : q = n
              · subst hq; constructor <;> intro h5 <;> first | exact absurd h5 h3 | omega
              · have h4 := e2 q q0 (by omega)
                constructor <;> intro h5 <;> first | (have := h4.mp h5; omega) | exact h4.mpr (by omega)
  obtain ⟨e, e0, e1, e2⟩ := key (g 0).toNat (by omega)
  have hp : plF g r = (if fpF g r < ((g 0).toNat : Int) then (if e < ((g 0).toNat : Int) then e else ((g 0).toNat : Int)) - fpF g r else 0) := e1
  rw [if_pos (by omega)] at hp
  have hl : plF g r = (if e < g 0 then e else g 0) - fpF g r := by rw [hp, show (((g 0).toNat : Nat) : Int) = g 0 by omega]
  refine ⟨by rw [hl]; split <;> omega, fun q q0 q1 => ?_⟩
  rw [e2 q q0 (by omega), hl]
  split <;> omega
/-- the values of a run, up to a place -/
def rvG (g : Int → Int) (r : Int) (q : Nat) : Int := sm (rvE g r) q
theorem rvG_0 {g : Int → Int} (h : wf g) {r : Int} (h0 : 0 ≤ r) (h1 : r ≤ runsF g - 1) : rvG g r (fpF g r).toNat = 0 := by
  obtain ⟨f0, f1, f2, f3⟩ := fpF_in h (r := r) h0 (by omega)
  have h2 := sm_cong (f := rvE g r) (g := fun _ => 0) (n := (fpF g r).toNat) (fun p p0 p1 => by
    have := f3 p p0 (by omega)
    rw [rvE, if_neg (by omega)])
  rw [rvG, h2, sm_const]
  omega
theorem rvG_s {g : Int → Int} (h : wf g) {r : Int} (h0 : 0 ≤ r) (h1 : r ≤ runsF g - 1) {q : Nat} (q0 : fpF g r ≤ q) (q1 : (q : Int) < fpF g r + plF g r) : rvG g r (q + 1) = rvG g r q + valF g (jatF g q) := by
  have h2 := plF_run h h0 h1
  have h3 := (h2.2 q (by omega) (by omega)).mpr ⟨q0, q1⟩
  rw [rvG, sm_s, rvE, if_pos h3]
  rfl
theorem rvG_n {g : Int → Int} (h : wf g) {r : Int} (h0 : 0 ≤ r) (h1 : r ≤ runsF g - 1) {q : Nat} (hq : (q : Int) = fpF g r + plF g r) : rvG g r q = rvF g r := by
  have h2 := plF_run h h0 h1
  have hp0 := plF_in h r
  obtain ⟨f0, f1, f2, f3⟩ := fpF_in h (r := r) h0 (by omega)
  have key : ∀ k : Nat, ((q + k : Nat) : Int) ≤ g 0 → sm (rvE g r) (q + k) = sm (rvE g r) q := by
    intro k
    induction k with
    | zero => intro _; rfl
    | succ k ih =>
      intro hk
      have h3 := h2.2 ((q + k : Nat) : Int) (by omega) (by omega)
      rw [show q + (k + 1) = (q + k) + 1 by omega, sm_s, ih (by omega), rvE, if_neg (fun z => by have := h3.mp z; omega)]
      omega
  have h4 := key ((g 0).toNat - q) (by omega)
  rw [show q + ((g 0).toNat - q) = (g 0).toNat by omega] at h4
  exact h4.symm
