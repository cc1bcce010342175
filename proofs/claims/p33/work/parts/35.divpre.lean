/-! DIVIDE: the cuts as a set, and what is left -/
def ctN (t : Int → Int) : Nat → Nat
  | 0 => 0
  | n + 1 => ctN t n ||| 2 ^ (t n).toNat
theorem ctN_bit (t : Int → Int) (n p : Nat) : (ctN t n).testBit p = true ↔ ∃ i : Nat, i < n ∧ (t i).toNat = p := by
  induction n with
  | zero =>
    constructor
    · intro h
      have h2 : (0 : Nat).testBit p = true := h
      rw [Nat.zero_testBit] at h2
      exact absurd h2 (by decide)
    · rintro ⟨i, h, _⟩
      exact absurd h (Nat.not_lt_zero i)
  | succ n ih =>
    rw [ctN, Nat.testBit_or, Bool.or_eq_true, ih, Nat.testBit_two_pow, decide_eq_true_iff]
    constructor
    · rintro (⟨i, h, e⟩ | e)
      · exact ⟨i, by omega, e⟩
      · exact ⟨n, by omega, e⟩
    · rintro ⟨i, h, e⟩
      by_cases hi : i = n
      · subst hi; exact Or.inr e
      · exact Or.inl ⟨i, by omega, e⟩
theorem ctN_lt {t : Int → Int} (n : Nat) (h : ∀ j : Int, 0 ≤ j → j < n → 0 ≤ t j ∧ t j ≤ 15) : ctN t n < 65536 := by
  induction n with
  | zero => exact (by decide : (0 : Nat) < 65536)
  | succ n ih =>
    have h1 := ih (fun j j0 j1 => h j j0 (by omega))
    have h2 := h n (by omega) (by omega)
    rw [ctN]
    exact Nat.or_lt_two_pow (n := 16) h1 (Nat.pow_lt_pow_right (by decide) (by omega))
theorem ctN_c {t u : Int → Int} (n : Nat) (h : agr n t u) : ctN t n = ctN u n := by
  induction n with
  | zero => rfl
  | succ n ih => rw [ctN, ctN, ih (fun j j0 j1 => h j j0 (by omega)), h n (by omega) (by omega)]
theorem wf_ct {g : Int → Int} (h : wf g) {c : Int} {T : Int → Int} (c0 : 0 ≤ c) (hT : ways (g 0) c T) : wb (uq g 5 (ctN T c.toNat : Nat)) ∧ wf (dealF (uq g 5 (ctN T c.toNat : Nat)) 0) := by
  have hn := h.1
  have ht : ∀ j : Int, 0 ≤ j → j < c.toNat → 0 ≤ T j ∧ T j ≤ 15 := fun j j0 j1 => by
    have := (hT j j0 (by omega)).1; omega
  have hd := ctN_lt c.toNat ht
  have hb : ∀ p : Nat, (ctN T c.toNat).testBit p = true → 1 ≤ p ∧ (p : Int) < g 0 := fun p hp => by
    obtain ⟨i, hi, e⟩ := (ctN_bit T c.toNat p).mp hp
    have := (hT i (by omega) (by omega)).1
    omega
  obtain ⟨d, hdd⟩ : ∃ d : Nat, ctN T c.toNat = d := ⟨_, rfl⟩
  rw [hdd] at hd hb ⊢
  have e0 : uq g 5 (d : Nat) 0 = g 0 := uq_ne _ _ (by decide)
  have e5 : uq g 5 (d : Nat) 5 = d := uq_eq _ _ _
  have hb0 : d.testBit 0 = false := by
    cases hh : d.testBit 0 with
    | false => rfl
    | true => have := hb 0 hh; omega
  refine ⟨⟨⟨by rw [e0]; exact hn, by rw [e5]; omega, by rw [e5]; omega⟩, by rw [e5]; exact hb0⟩, ?_⟩
  have hf : wf (freeF g) := wf_free h.1 h.2.1 h.2.2.1 h.2.2.2.1 (fun j h0 h1 => h.2.2.2.2.2.2.1 j h0 h1)
  have h2 := wf_cuts hf hd (fun p hp => hb p hp) (fun p p0 p1 _ => by
    unfold freeF
    have : p < g 0 := p1
    rw [if_neg (by omega), if_pos (by omega), if_neg (by omega), if_pos (by omega)])
  have h3 := wf_deal h2 0
  have hlo : ∀ b : Int, b < 38 → dealF (uq g 5 (d : Nat)) 0 b = dealF (uq (freeF g) 5 (d : Nat)) 0 b := fun b hb2 => by
    rw [dealF_lo _ _ hb2, dealF_lo _ _ hb2]
    by_cases h5 : b = 5
    · subst h5; rw [uq_eq, uq_eq]
    · rw [uq_ne _ _ h5, uq_ne _ _ h5, freeF, if_neg h5, if_neg (by omega)]
  have hr : ∀ p : Int, runF (uq g 5 (d : Nat)) p = runF (uq (freeF g) 5 (d : Nat)) p := fun p => runF_congr (by rw [uq_eq, uq_eq]) p
  have hin : ∀ p : Int, 0 ≤ p → p < g 0 → dealF (uq g 5 (d : Nat)) 0 (38 + p) = dealF (uq (freeF g) 5 (d : Nat)) 0 (38 + p) := fun p p0 p1 => by
    have e1 : uq (freeF g) 5 (d : Nat) 0 = g 0 := uq_ne _ _ (by decide)
    unfold dealF
    rw [if_pos (by rw [e0]; omega), if_pos (by rw [e1]; omega), hr]
  have e3 : dealF (uq (freeF g) 5 (d : Nat)) 0 0 = g 0 := (dealF_lo _ _ (by decide)).trans (uq_ne _ _ (by decide))
  refine wf_owners h3 (fun b hb2 _ => hlo b hb2) (by rw [hlo 2 (by decide)]; exact h3.2.2.1) (fun p p0 p1 => ?_) (fun p p0 p1 hbt => ?_)
  · by_cases hp : p < g 0
    · rw [hin p p0 hp]; exact h3.2.2.2.2.2.2.2.1 p p0 p1
    · unfold dealF
      rw [if_neg (by rw [e0]; omega), uq_ne _ _ (by omega)]
      exact h.2.2.2.2.2.2.2.1 p p0 p1
  · rw [e3] at p1
    rw [hin p (by omega) p1, hin (p - 1) (by omega) (by omega)]
    exact h3.2.2.2.2.2.2.2.2 p p0 (by rw [e3]; exact p1) hbt
noncomputable def dvF (g : Int → Int) : Int → Int := dealF (uq g 5 (ctN (wyF g) (fewF g).toNat : Nat)) 0
theorem dvF_of {g T : Int → Int} (h : lexL g (fewF g) T) (c0 : 0 ≤ fewF g) : dvF g = dealF (uq g 5 (ctN T (fewF g).toNat : Nat)) 0 := by
  have := wyF_of h c0
  rw [dvF, ctN_c (fewF g).toNat (t := wyF g) (u := T) (fun j j0 j1 => this j j0 (by omega))]
/-- a call of now's change, nothing else but the rows of searching -/
def fy (S S' : SS) : Prop := ∀ m : Nat, m ≠ 84 → m ≠ 85 → m ≠ 89 → m ≠ 90 → S' m = rmU (us S 82 (uq (S 82) 0 0)) m
theorem fy_0 {S : SS} {D T g : Int → Int} : fy S (us (rmU (us (us (us S 89 D) 90 T) 82 (uq (S 82) 0 0))) 84 g) := fun m h4 h5 h9 h0 => by
  rw [us_a h4]
  by_cases h2 : m = 82
  · subst h2; rfl
  · by_cases h6 : m = 86
    · subst h6; rfl
    · unfold rmU
      rw [us_a h2, us_a h6, us_a h2, us_a h0, us_a h9, us_a h2, us_a h6, us_a h2]
theorem fy_s {S Sx : SS} {g : Int → Int} (h : fy S Sx) : fy S (us Sx 84 g) := fun m h4 h5 h9 h0 => by
  rw [us_a h4]; exact h m h4 h5 h9 h0
theorem fy_m {S Sx Sy : SS} (h : fy S Sx) (hf : fm Sx Sy 84) : fy S Sy := fun m h4 h5 h9 h0 => by
  rw [hf m h4]; exact h m h4 h5 h9 h0
theorem fz_d {S : SS} {D T : Int → Int} : fz S 1 (us (us (us S 89 D) 90 T) 82 (uq (S 82) 0 1)) := fun m h5 h9 h0 => by
  by_cases h2 : m = 82
  · subst h2; rfl
  · rw [us_a h2, us_a h0, us_a h9, us_a h2]
def pD (S : SS) : Option Value → SS → Prop := pV (.int (iI (if fewF (mw S 84) = -1 then 0 else fewF (mw S 84)))) (fun S' => (fewF (mw S 84) = -1 → fz S 1 S') ∧ (fewF (mw S 84) ≠ -1 → mw S' 84 = dvF (mw S 84) ∧ fy S S'))
