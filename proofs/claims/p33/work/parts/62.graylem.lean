/-! OWNERS and cuts: the same numbers -/
def obt (f : Nat → Bool) : Nat → Nat
  | 0 => 0
  | n + 1 => obt f n ||| (if f n = true then 2 ^ n else 0)
theorem obt_bit (f : Nat → Bool) (n p : Nat) : (obt f n).testBit p = (decide (p < n) && f p) := by
  induction n with
  | zero => rw [show obt f 0 = 0 from rfl, Nat.zero_testBit, decide_eq_false (Nat.not_lt_zero p), Bool.false_and]
  | succ n ih =>
    rw [obt, Nat.testBit_or, ih]
    by_cases h : p = n
    · subst h
      rw [decide_eq_false (Nat.lt_irrefl p), decide_eq_true (Nat.lt_succ_self p), Bool.false_and, Bool.false_or, Bool.true_and]
      cases hf : f p with
      | false => rw [if_neg (by decide), Nat.zero_testBit]
      | true => rw [if_pos rfl, Nat.testBit_two_pow_self]
    · have h2 : (if f n = true then 2 ^ n else 0).testBit p = false := by
        split
        · rw [Nat.testBit_two_pow, decide_eq_false (fun z => h z.symm)]
        · rw [Nat.zero_testBit]
      rw [h2, Bool.or_false]
      by_cases h3 : p < n
      · rw [decide_eq_true h3, decide_eq_true (show p < n + 1 by omega)]
      · rw [decide_eq_false h3, decide_eq_false (show ¬ p < n + 1 by omega)]
theorem obt_lt (f : Nat → Bool) (n : Nat) : obt f n < 2 ^ n := by
  induction n with
  | zero => exact Nat.one_pos
  | succ n ih =>
    rw [obt]
    have h1 : 2 ^ n < 2 ^ (n + 1) := Nat.pow_lt_pow_right (by decide) (by omega)
    refine Nat.or_lt_two_pow (by omega) ?_
    split
    · exact h1
    · exact Nat.two_pow_pos _
def gry (w : Nat) : Nat := w ^^^ w / 2
def chF (w : Nat) : Nat := cn (gry w) 16
theorem gry_bit (w p : Nat) : (gry w).testBit p = (w.testBit p ^^ w.testBit (p + 1)) := by
  rw [gry, Nat.testBit_xor, Nat.testBit_div_two]
theorem cn_shift {x c : Nat} (h0 : c.testBit 0 = false) : ∀ n : Nat, (∀ p, p < n → x.testBit p = c.testBit (p + 1)) → cn x n = cn c (n + 1)
  | 0, _ => by rw [cn_s, h0]; rfl
  | n + 1, h => by rw [cn_s, cn_shift h0 n (fun p hp => h p (by omega)), cn_s c (n + 1), h n (by omega)]
theorem hi_bit {w m p : Nat} (h : w < 2 ^ m) (hp : m ≤ p) : w.testBit p = false := Nat.testBit_lt_two_pow (Nat.lt_of_lt_of_le h (Nat.pow_le_pow_right (by decide) hp))
theorem sm_evE {g : Int → Int} {c w : Nat} (hn : 0 ≤ g 0) (h : ∀ p : Nat, (p : Int) < g 0 → w.testBit p = decide (cn c (p + 1) % 2 = 0)) (k : Int) : sm (evE g c k) (g 0).toNat = owS g w k := by
  unfold owS
  refine sm_cong (fun p h0 h1 => ?_)
  unfold owE evE
  rw [h p.toNat (by omega)]
  by_cases e : cn c (p.toNat + 1) % 2 = 0
  · rw [if_pos e, if_pos (decide_eq_true e)]
  · rw [if_neg e, if_neg (by rw [decide_eq_false e]; decide)]
theorem gapS_other {g s u : Int → Int} (h : ∀ k : Int, 0 ≤ k → k < 4 → s k + u k = ahF g k (g 0).toNat) (hz : gapS g s = 0) : gapS g u = 0 := by
  have h1 := gapS_0.mp hz
  exact gapS_0.mpr (fun k a b => by have := h1 k a b; have := h k a b; omega)
theorem gapS_same {g s u : Int → Int} (h : ∀ k : Int, 0 ≤ k → k < 4 → s k = u k) (hz : gapS g s = 0) : gapS g u = 0 := by
  have h1 := gapS_0.mp hz
  exact gapS_0.mpr (fun k a b => by have := h1 k a b; have := h k a b; omega)
/-- a string of jewels has some value -/
theorem some_val {g : Int → Int} (hw : wf g) (hn : 0 < g 0) : ∃ k : Int, (0 ≤ k ∧ k < 4) ∧ 0 < ahF g k (g 0).toNat := by
  have hj := jatF_in hw (p := 0) (by omega) hn
  have hk := hw.2.2.2.2.2.2.1 _ hj.1 hj.2
  have hv := valF_in hw hj.1 hj.2
  refine ⟨g (6 + jatF g 0), by omega, ?_⟩
  have h1 := ahF_mono hw (g (6 + jatF g 0)) (p := 1) (q := (g 0).toNat) (by omega) (by omega)
  have h2 : ahF g (g (6 + jatF g 0)) 1 = 0 + ahE g (g (6 + jatF g 0)) 0 := rfl
  have h3 : ahE g (g (6 + jatF g 0)) 0 = valF g (jatF g 0) := if_pos rfl
  omega
theorem own_of_cuts {g : Int → Int} (hw : wf g) (hn : 0 < g 0) {c : Nat} {t : Int → Int} (hg : goodW g c t) : ∃ w : Nat, 1 ≤ w ∧ w < 2 ^ ((g 0).toNat - 1) ∧ gapS g (owS g w) = 0 ∧ chF w = c := by
  obtain ⟨ht, hz⟩ := hg
  have hN := hw.1
  obtain ⟨C, hC⟩ : ∃ C : Nat, ctN t c = C := ⟨_, rfl⟩
  obtain ⟨m, hm⟩ : ∃ m : Nat, (g 0).toNat = m + 1 := ⟨(g 0).toNat - 1, by omega⟩
  have hl := preW_lst ht hN.1
  have hbits : ∀ p : Nat, C.testBit p = true → 1 ≤ p ∧ p < m + 1 := fun p hp => by
    rw [← hC] at hp
    obtain ⟨i, hi, e⟩ := (ctN_bit t c p).mp hp
    have := preW_at ht hN.1 hi
    omega
  have hC0 : C.testBit 0 = false := by
    cases hb : C.testBit 0 with
    | false => rfl
    | true => have := hbits 0 hb; omega
  let par : Nat → Bool := fun p => decide (cn C (p + 1) % 2 = 0)
  let f : Nat → Bool := fun p => (par p ^^ par m)
  have hpar : ∀ p : Nat, par p = decide (cn C (p + 1) % 2 = 0) := fun p => rfl
  have hf : ∀ p : Nat, f p = (par p ^^ par m) := fun p => rfl
  have hwb : ∀ p : Nat, p ≤ m → (obt f m).testBit p = f p := fun p hp => by
    rw [obt_bit]
    by_cases h : p < m
    · rw [decide_eq_true h, Bool.true_and]
    · rw [show p = m by omega, decide_eq_false (Nat.lt_irrefl m), Bool.false_and, hf, Bool.xor_self]
  have hbit : ∀ p : Nat, (p : Int) < g 0 → (obt par (m + 1)).testBit p = decide (cn C (p + 1) % 2 = 0) := fun p hp => by
    rw [obt_bit, decide_eq_true (show p < m + 1 by omega), Bool.true_and]
  have hfs : ∀ k : Int, fsE g c t k = owS g (obt par (m + 1)) k := fun k => by rw [fsE_ev hw ht, hC, sm_evE hN.1 hbit]
  have hgap : gapS g (owS g (obt f m)) = 0 := by
    cases hb : par m with
    | false =>
      refine gapS_same (fun k _ _ => ?_) hz
      rw [hfs]
      refine owS_c (fun p hp => ?_) hN.1 k
      rw [hwb p (by omega), hf, hb, Bool.xor_false, hbit p hp]
    | true =>
      refine gapS_other (fun k _ _ => ?_) hz
      rw [hfs]
      refine owS_t (fun p hp => ?_) hN.1 k
      rw [hwb p (by omega), hf, hb, Bool.xor_true, Bool.not_not, hbit p hp]
  refine ⟨obt f m, ?_, by rw [hm]; exact obt_lt f m, hgap, ?_⟩
  · rcases Nat.eq_zero_or_pos (obt f m) with h | h
    · exfalso
      rw [h] at hgap
      obtain ⟨k, ⟨k0, k1⟩, hk⟩ := some_val hw hn
      have := gapS_0.mp hgap k k0 k1
      rw [owS_0] at this
      omega
    · exact h
  · unfold chF
    have hx : ∀ p, p < 16 → (gry (obt f m)).testBit p = C.testBit (p + 1) := fun p _ => by
      rw [gry_bit]
      by_cases h : p + 1 ≤ m
      · rw [hwb p (by omega), hwb (p + 1) h, hf, hf, hpar p, hpar (p + 1), hpar m, cn_s C (p + 1)]
        cases hb : C.testBit (p + 1) with
        | false => simp
        | true =>
          rcases Nat.mod_two_eq_zero_or_one (cn C (p + 1)) with h2 | h2
          · have h3 : (cn C (p + 1) + 1) % 2 = 1 := by omega
            simp [h2, h3]
          · have h3 : (cn C (p + 1) + 1) % 2 = 0 := by omega
            simp [h2, h3]
      · have h1 : (obt f m).testBit p = false := hi_bit (obt_lt f m) (by omega)
        have h2 : (obt f m).testBit (p + 1) = false := hi_bit (obt_lt f m) (by omega)
        rw [h1, h2]
        cases hb : C.testBit (p + 1) with
        | false => rfl
        | true => have := hbits (p + 1) hb; omega
    rw [cn_shift hC0 16 hx, ← hC]
    exact cn_ct hN.1 c ht c (Nat.le_refl _) 16 (by omega) (fun z => absurd z (Nat.lt_irrefl c))
/-- the bits of a set, in their order -/
theorem enum {C : Nat} (h0 : C.testBit 0 = false) : ∀ n : Nat, ∃ t : Int → Int, preW n (cn C n) t ∧ ∀ p : Nat, p < n → (C.testBit p = true ↔ ∃ i : Nat, i < cn C n ∧ t i = p)
  | 0 => ⟨fun _ => 0, fun i hi => absurd hi (Nat.not_lt_zero i), fun p hp => absurd hp (Nat.not_lt_zero p)⟩
  | n + 1 => by
    obtain ⟨t, h1, h2⟩ := enum h0 n
    cases hb : C.testBit n with
    | false =>
      have e : cn C (n + 1) = cn C n := by rw [cn_s, hb]; rfl
      rw [e]
      refine ⟨t, fun i hi => by have := h1 i hi; omega, fun p hp => ?_⟩
      by_cases hpn : p = n
      · subst hpn
        rw [hb]
        constructor
        · intro z; exact absurd z (by decide)
        · rintro ⟨i, hi, e2⟩
          have := (h1 i hi).2
          omega
      · exact h2 p (by omega)
    | true =>
      have e : cn C (n + 1) = cn C n + 1 := by rw [cn_s, hb]; rfl
      rw [e]
      have hnp : n ≠ 0 := fun z => by rw [z, h0] at hb; exact absurd hb (by decide)
      have hl := preW_lst h1 (by omega)
      have hll : lst t (cn C n) < n := by
        rcases Nat.eq_zero_or_pos (cn C n) with z | z
        · rw [z, lst_0]; omega
        · obtain ⟨j, hj⟩ : ∃ j, cn C n = j + 1 := ⟨cn C n - 1, by omega⟩
          rw [hj, lst_s]
          exact (h1 j (by omega)).2
      have h1' : preW ((n + 1 : Nat) : Int) (cn C n) t := fun i hi => by have := h1 i hi; omega
      refine ⟨uq t (cn C n) n, preW_up h1' hll (by omega), fun p hp => ?_⟩
      have ht : ∀ i : Nat, i < cn C n → uq t (cn C n) n i = t i := fun i hi => uq_ne _ _ (by omega)
      by_cases hpn : p = n
      · subst hpn
        rw [hb]
        exact ⟨fun _ => ⟨cn C p, by omega, uq_eq _ _ _⟩, fun _ => rfl⟩
      · rw [h2 p (by omega)]
        constructor
        · rintro ⟨i, hi, e2⟩
          exact ⟨i, by omega, by rw [ht i hi]; exact e2⟩
        · rintro ⟨i, hi, e2⟩
          by_cases hi2 : i = cn C n
          · subst hi2; rw [uq_eq] at e2; omega
          · exact ⟨i, by omega, by rw [← ht i (by omega)]; exact e2⟩
theorem cuts_of_own {g : Int → Int} (hw : wf g) (hn : 0 < g 0) {w : Nat} (hlt : w < 2 ^ ((g 0).toNat - 1)) (hz : gapS g (owS g w) = 0) : ∃ t : Int → Int, goodW g (chF w) t := by
  have hN := hw.1
  obtain ⟨m, hm⟩ : ∃ m : Nat, (g 0).toNat = m + 1 := ⟨(g 0).toNat - 1, by omega⟩
  rw [hm, Nat.add_sub_cancel] at hlt
  obtain ⟨C, hC⟩ : ∃ C : Nat, 2 * gry w = C := ⟨_, rfl⟩
  have hC0 : C.testBit 0 = false := by
    rw [← hC, Nat.testBit_zero]
    have : 2 * gry w % 2 = 0 := by omega
    simp
  have hCs : ∀ p : Nat, (gry w).testBit p = C.testBit (p + 1) := fun p => by
    rw [← hC, Nat.testBit_succ]
    congr 1
    omega
  have hhi : ∀ p : Nat, m + 1 ≤ p → C.testBit p = false := fun p hp => by
    obtain ⟨q, rfl⟩ : ∃ q, p = q + 1 := ⟨p - 1, by omega⟩
    rw [← hCs, gry_bit, hi_bit hlt (by omega), hi_bit hlt (by omega)]
    rfl
  have hch : chF w = cn C (m + 1) := by
    unfold chF
    rw [cn_shift hC0 16 (fun p _ => hCs p)]
    exact cn_stop C (by omega) (fun p a _ => hhi p a)
  obtain ⟨t, ht, hb⟩ := enum hC0 (m + 1)
  have hgm : ((m + 1 : Nat) : Int) = g 0 := by omega
  rw [← hch, hgm] at ht
  refine ⟨t, ht, ?_⟩
  have hct : ∀ p : Nat, p < m + 1 → (ctN t (chF w)).testBit p = C.testBit p := fun p hp => by
    have h1 := hb p hp
    rw [← hch] at h1
    have h2 := ctN_bit t (chF w) p
    cases hc : C.testBit p with
    | true =>
      obtain ⟨i, hi, e⟩ := h1.mp hc
      exact h2.mpr ⟨i, hi, by omega⟩
    | false =>
      cases hd : (ctN t (chF w)).testBit p with
      | false => rfl
      | true =>
        obtain ⟨i, hi, e⟩ := h2.mp hd
        have h3 := preW_at ht hN.1 hi
        have h4 := h1.mpr ⟨i, hi, by omega⟩
        rw [hc] at h4
        exact absurd h4 (by decide)
  -- the owner changes at each cut
  have hpar : ∀ p : Nat, p < m + 1 → w.testBit p = (w.testBit 0 ^^ decide (cn (ctN t (chF w)) (p + 1) % 2 = 1)) := by
    intro p
    induction p with
    | zero =>
      intro hp
      have h1 : cn (ctN t (chF w)) 1 = 0 := by
        rw [cn_s, hct 0 hp, hC0]
        rfl
      rw [h1]
      simp
    | succ p ih =>
      intro hp
      have h1 := ih (by omega)
      have h2 := hCs p
      rw [gry_bit, ← hct (p + 1) hp] at h2
      have e : w.testBit (p + 1) = (w.testBit p ^^ (ctN t (chF w)).testBit (p + 1)) := by rw [← h2]; cases w.testBit p <;> cases w.testBit (p + 1) <;> rfl
      rw [e, h1, cn_s (ctN t (chF w)) (p + 1)]
      cases hbt : (ctN t (chF w)).testBit (p + 1) with
      | false => simp
      | true =>
        rcases Nat.mod_two_eq_zero_or_one (cn (ctN t (chF w)) (p + 1)) with h2 | h2
        · have h3 : (cn (ctN t (chF w)) (p + 1) + 1) % 2 = 1 := by omega
          cases w.testBit 0 <;> simp [h2, h3]
        · have h3 : (cn (ctN t (chF w)) (p + 1) + 1) % 2 = 0 := by omega
          cases w.testBit 0 <;> simp [h2, h3]
  let par : Nat → Bool := fun p => decide (cn (ctN t (chF w)) (p + 1) % 2 = 0)
  have hbit : ∀ p : Nat, (p : Int) < g 0 → (obt par (m + 1)).testBit p = decide (cn (ctN t (chF w)) (p + 1) % 2 = 0) := fun p hp => by
    rw [obt_bit, decide_eq_true (show p < m + 1 by omega), Bool.true_and]
  have hfs : ∀ k : Int, owS g (obt par (m + 1)) k = fsE g (chF w) t k := fun k => by rw [fsE_ev hw ht, sm_evE hN.1 hbit]
  have hdec : ∀ x : Nat, decide (x % 2 = 1) = !decide (x % 2 = 0) := fun x => by
    rcases Nat.mod_two_eq_zero_or_one x with h | h <;> simp [h]
  cases h0 : w.testBit 0 with
  | true =>
    refine gapS_same (fun k _ _ => ?_) hz
    rw [← hfs]
    refine owS_c (fun p hp => ?_) hN.1 k
    rw [hpar p (by omega), h0, hbit p hp, Bool.true_xor, hdec, Bool.not_not]
  | false =>
    refine gapS_other (fun k _ _ => ?_) hz
    rw [← hfs]
    refine owS_t (fun p hp => ?_) hN.1 k
    rw [hpar p (by omega), h0, hbit p hp, Bool.false_xor, hdec]
/-! the order in which the sets are gone through: each differs from the one ahead of it by one place -/
def tzI (x : Nat) : Nat := (x - 1) ^^^ ((x - 1) &&& x)
def tzC (n i : Nat) : Nat := if 4 < i then n + 2 + i / 4 / 2 else n + i / 2
def tzB (n i : Nat) : Nat := if 16 < i then tzC (n + 4) (i / 16) else tzC n i
def tzA (n i : Nat) : Nat := if 256 < i then tzB (n + 8) (i / 256) else tzB n i
def tzR (x : Nat) : Nat := if tzI x = 0 then 0 else tzA 1 (tzI x)
def ig1 (x : Nat) : Nat := x ^^^ x / 2
def ig2 (x : Nat) : Nat := x ^^^ x / 4
def ig3 (x : Nat) : Nat := x ^^^ x / 16
def ig4 (x : Nat) : Nat := x ^^^ x / 256
def igr (x : Nat) : Nat := ig4 (ig3 (ig2 (ig1 x)))
def gck (x : Nat) : Bool := Nat.beq (gry (igr x)) x && (Nat.beq (Nat.log2 (igr x)) (Nat.log2 x) && (Nat.beq x 0 || (Nat.beq (gry x) (gry (x - 1) ^^^ 2 ^ tzR x) && Nat.ble (2 ^ tzR x) x)))
def gcb (a : Nat) : Bool := (List.range 16).all fun h => (List.range 256).all fun l => gck (4096 * a + (256 * h + l))
theorem gcb_0 : gcb 0 = true := by decide +kernel
theorem gcb_1 : gcb 1 = true := by decide +kernel
theorem gcb_2 : gcb 2 = true := by decide +kernel
theorem gcb_3 : gcb 3 = true := by decide +kernel
theorem gcb_4 : gcb 4 = true := by decide +kernel
theorem gcb_5 : gcb 5 = true := by decide +kernel
theorem gcb_6 : gcb 6 = true := by decide +kernel
theorem gcb_7 : gcb 7 = true := by decide +kernel
theorem gck_all {x : Nat} (h : x < 32768) : gck x = true := by
  have h0 : ∀ a, a < 8 → gcb a = true := fun a ha => by
    match a, ha with
    | 0, _ => exact gcb_0
    | 1, _ => exact gcb_1
    | 2, _ => exact gcb_2
    | 3, _ => exact gcb_3
    | 4, _ => exact gcb_4
    | 5, _ => exact gcb_5
    | 6, _ => exact gcb_6
    | 7, _ => exact gcb_7
    | a + 8, ha => exact absurd ha (by omega)
  have h1 := List.all_eq_true.mp (h0 (x / 4096) (by omega)) (x % 4096 / 256) (List.mem_range.mpr (by omega))
  have h2 := List.all_eq_true.mp h1 (x % 256) (List.mem_range.mpr (by omega))
  rw [show 4096 * (x / 4096) + (256 * (x % 4096 / 256) + x % 256) = x by omega] at h2
  exact h2
theorem gry_step {x : Nat} (h0 : 1 ≤ x) (h : x < 32768) : gry x = gry (x - 1) ^^^ 2 ^ tzR x ∧ 2 ^ tzR x ≤ x := by
  have h1 := gck_all h
  unfold gck at h1
  simp only [Bool.and_eq_true, Bool.or_eq_true] at h1
  obtain ⟨-, -, h2⟩ := h1
  rcases h2 with h2 | ⟨h2, h3⟩
  · have := Nat.eq_of_beq_eq_true h2; omega
  · exact ⟨Nat.eq_of_beq_eq_true h2, Nat.le_of_ble_eq_true h3⟩
theorem gry_inv {x m : Nat} (h0 : 1 ≤ x) (hm : m ≤ 15) (h : x < 2 ^ m) : ∃ v : Nat, 1 ≤ v ∧ v < 2 ^ m ∧ gry v = x := by
  have hp : 2 ^ m ≤ 2 ^ 15 := Nat.pow_le_pow_right (by decide) hm
  have h1 := gck_all (x := x) (by omega)
  unfold gck at h1
  simp only [Bool.and_eq_true, Bool.or_eq_true] at h1
  obtain ⟨h2, h3, -⟩ := h1
  have h2 := Nat.eq_of_beq_eq_true h2
  have h3 := Nat.eq_of_beq_eq_true h3
  have hv : igr x ≠ 0 := fun z => by
    rw [z] at h2
    have : gry 0 = 0 := rfl
    omega
  refine ⟨igr x, by omega, ?_, h2⟩
  have h4 := (Nat.log2_lt (by omega)).mpr h
  rw [← h3] at h4
  exact (Nat.log2_lt hv).mp h4
theorem gry_0 : gry 0 = 0 := rfl
theorem gry_lt {v m : Nat} (h : v < 2 ^ m) : gry v < 2 ^ m := by
  unfold gry
  exact Nat.xor_lt_two_pow h (Nat.lt_of_le_of_lt (Nat.div_le_self _ _) h)
/-- the search: the least number of changes among the sets gone through, 7 where there is none lower -/
def foI (g : Int → Int) (w : Nat) (x : Int) : Prop := x ≤ 7 ∧ (x = 7 ∨ ∃ v : Nat, 1 ≤ v ∧ v < w ∧ gapS g (owS g (gry v)) = 0 ∧ (chF (gry v) : Int) = x) ∧ ∀ v : Nat, 1 ≤ v → v < w → gapS g (owS g (gry v)) = 0 → x ≤ chF (gry v)
theorem foI_0 (g : Int → Int) : foI g 1 7 := ⟨Int.le_refl _, Or.inl rfl, fun v h0 h1 => by omega⟩
theorem foI_y {g : Int → Int} {w : Nat} {x : Int} (h : foI g w x) (hw : 1 ≤ w) (hz : gapS g (owS g (gry w)) = 0) : foI g (w + 1) (if (chF (gry w) : Int) < x then (chF (gry w) : Int) else x) := by
  obtain ⟨h1, h2, h3⟩ := h
  refine ⟨by split <;> omega, ?_, fun v v0 v1 hv => ?_⟩
  · split
    · exact Or.inr ⟨w, hw, by omega, hz, rfl⟩
    · rcases h2 with h2 | ⟨v, a, b, d, e⟩
      · exact Or.inl h2
      · exact Or.inr ⟨v, a, by omega, d, e⟩
  · by_cases e : v = w
    · subst e; split <;> omega
    · have := h3 v v0 (by omega) hv
      split <;> omega
theorem foI_n {g : Int → Int} {w : Nat} {x : Int} (h : foI g w x) (hz : ¬ gapS g (owS g (gry w)) = 0) : foI g (w + 1) x := by
  obtain ⟨h1, h2, h3⟩ := h
  refine ⟨h1, ?_, fun v v0 v1 hv => ?_⟩
  · rcases h2 with h2 | ⟨v, a, b, d, e⟩
    · exact Or.inl h2
    · exact Or.inr ⟨v, a, by omega, d, e⟩
  · by_cases e : v = w
    · subst e; exact absurd hv hz
    · exact h3 v v0 (by omega) hv
theorem foI_end {g : Int → Int} (hw : wf g) (hn : 0 < g 0) {x : Int} (h : foI g (2 ^ ((g 0).toNat - 1)) x) : fewF g = if x > 6 then -1 else x := by
  have hN := hw.1
  obtain ⟨h1, h2, h3⟩ := h
  have hall : ∀ (c : Nat) (t : Int → Int), goodW g c t → x ≤ c := fun c t hg => by
    obtain ⟨O, o1, o2, o3, o4⟩ := own_of_cuts hw hn hg
    obtain ⟨v, v1, v2, v3⟩ := gry_inv o1 (by omega) o2
    have := h3 v v1 v2 (by rw [v3]; exact o3)
    rw [v3, o4] at this
    exact this
  have hno : ∀ j : Int, 0 ≤ j → j < x → j ≤ 6 → leW g j ≠ 0 := fun j j0 j1 j2 e => by
    obtain ⟨c, rfl⟩ := Int.eq_ofNat_of_zero_le j0
    obtain ⟨t, ht⟩ := (leW_0 hw (by omega)).mp e
    have := hall c t ht
    omega
  by_cases hx : x > 6
  · rw [if_pos hx]
    exact fewF_of (Or.inl ⟨rfl, fun j j0 j1 => hno j j0 (by omega) j1⟩)
  · rw [if_neg hx]
    rcases h2 with h2 | ⟨v, v1, v2, v3, v4⟩
    · omega
    · obtain ⟨t, ht⟩ := cuts_of_own hw hn (gry_lt v2) v3
      exact fewF_of (Or.inr ⟨⟨by omega, by omega⟩, by rw [← v4]; exact (leW_0 hw (by omega)).mpr ⟨t, ht⟩, fun j j0 j1 => hno j j0 j1 (by omega)⟩)
theorem few_none {g : Int → Int} (hw : wf g) (hn : g 0 = 0) : fewF g = 0 := by
  have h0 : goodW g 0 (fun _ => 0) := by
    refine ⟨fun i hi => absurd hi (Nat.not_lt_zero i), gapS_0.mpr (fun k _ _ => ?_)⟩
    rw [hn]
    unfold fsE wrF
    rw [hn]
    rfl
  exact few_at (c := 0) (by decide) ((leW_0 hw (by decide)).mpr ⟨_, h0⟩) (fun j a b => by omega)
theorem tz_and {x : Nat} (h0 : 1 ≤ x) : (iI (x : Int) ^^^ iI (-1)) &&& iI ((x : Int) - 1) = iI ((tzI x : Nat) : Int) := by
  rw [show ((x : Int) - 1) = ((x - 1 : Nat) : Int) by omega, iI_nat, iI_nat, iI_nat, tzI]
  apply Int32.toBitVec_inj.1
  show (BitVec.ofNat 32 x ^^^ (iI (-1)).toBitVec) &&& BitVec.ofNat 32 (x - 1) = BitVec.ofNat 32 ((x - 1) ^^^ ((x - 1) &&& x))
  have e : (iI (-1)).toBitVec = BitVec.allOnes 32 := by decide
  rw [e, BitVec.ofNat_xor, BitVec.ofNat_and]
  apply BitVec.eq_of_getLsbD_eq
  intro i hi
  rw [BitVec.getLsbD_and, BitVec.getLsbD_xor, BitVec.getLsbD_allOnes, BitVec.getLsbD_xor, BitVec.getLsbD_and, decide_eq_true hi]
  cases (BitVec.ofNat 32 x).getLsbD i <;> cases (BitVec.ofNat 32 (x - 1)).getLsbD i <;> rfl
theorem tzI_lt {x : Nat} (h1 : x < 65536) : tzI x < 65536 := by
  unfold tzI
  exact Nat.xor_lt_two_pow (n := 16) (by omega) (Nat.lt_of_le_of_lt Nat.and_le_left (by omega))
theorem cast_pow2 (n : Nat) : ((2 ^ n : Nat) : Int) = 2 ^ n := by rw [Int.natCast_pow]; rfl
