/-! THE PAIR: what is so of the class's cells and the reference's at each call -/
def good (g h : Int → Int) : Prop := eqs g h ∧ wf g ∧ wf h
def hix (n : Int) (k : Nat) : Nat := ((n - 1 - k) % 14).toNat
def dwR (S : SS) (j : Int) : Int → Int := fun c => if 0 ≤ c ∧ c < 54 then S 86 (54 * j + c) else 0
def kwR (S : SS) (s : Int) : Int → Int := fun c => if 0 ≤ c ∧ c < 54 then S 87 (54 * s + c) else 0
def R2 (S : SS) : Prop := S 74 = S 83 ∧ S 73 0 = S 82 1 ∧ (0 ≤ S 73 0 ∧ S 73 0 ≤ 120) ∧ ∀ c : Int, 0 ≤ c → c < 120 → 0 ≤ S 74 c ∧ S 74 c ≤ 255
def R3 (S : SS) : Prop := (0 ≤ S 75 0 ∧ S 75 0 < 14) ∧ (0 ≤ S 75 1 ∧ S 75 1 ≤ 14) ∧ S 82 2 = S 75 1 ∧ ∀ k : Nat, (k : Int) < S 75 1 → good (vw S (4 + hix (S 75 0) k)) (dwR S (S 75 1 - 1 - k))
def R5 (S : SS) : Prop := (S 80 0 = 0 ∨ S 80 0 = 1) ∧ (S 81 0 = 0 ∨ S 81 0 = 1) ∧ S 88 0 = S 80 0 ∧ S 88 1 = S 81 0 ∧ (S 80 0 = 1 → good (vw S 2) (kwR S 0)) ∧ (S 81 0 = 1 → good (vw S 3) (kwR S 1))
def RR (S : SS) : Prop := good (vw S 0) (mw S 84) ∧ R2 S ∧ R3 S ∧ S 78 0 = 0 ∧ R5 S
theorem vw_eq {S S' : SS} {i : Nat} (h : ∀ m : Nat, 4 * i ≤ m → m < 4 * i + 4 → S' m = S m) : vw S' i = vw S i := by
  funext c
  unfold vw
  rw [h (4 * i) (by omega) (by omega), h (4 * i + 1) (by omega) (by omega), h (4 * i + 2) (by omega) (by omega), h (4 * i + 3) (by omega) (by omega)]
theorem mw_eq {S S' : SS} {n : Nat} (h : S' n = S n) : mw S' n = mw S n := by
  funext c
  unfold mw
  rw [h]
theorem dw_eq {S S' : SS} (h : S' 86 = S 86) (j : Int) : dwR S' j = dwR S j := by
  funext c
  unfold dwR
  rw [h]
theorem kw_eq {S S' : SS} (h : S' 87 = S 87) (j : Int) : kwR S' j = kwR S j := by
  funext c
  unfold kwR
  rw [h]
theorem R2_k {S S' : SS} (h : R2 S) (h3 : S' 73 0 = S 73 0) (h4 : S' 74 = S 74) (h1 : S' 82 1 = S 82 1) (h8 : S' 83 = S 83) : R2 S' := by
  unfold R2
  rw [h3, h4, h1, h8]
  exact h
theorem R3_k {S S' : SS} (h : R3 S) (h5 : S' 75 0 = S 75 0) (h51 : S' 75 1 = S 75 1) (h2 : S' 82 2 = S 82 2) (h6 : S' 86 = S 86) (hc : ∀ m : Nat, 16 ≤ m → m < 72 → S' m = S m) : R3 S' := by
  unfold R3
  rw [h5, h51, h2]
  refine ⟨h.1, h.2.1, h.2.2.1, fun k hk => ?_⟩
  have hx : hix (S 75 0) k < 14 := by unfold hix; omega
  rw [dw_eq h6, vw_eq (fun m a b => hc m (by omega) (by omega))]
  exact h.2.2.2 k hk
theorem R5_k {S S' : SS} (h : R5 S) (h0 : S' 80 0 = S 80 0) (h1 : S' 81 0 = S 81 0) (h7 : S' 87 = S 87) (h8 : S' 88 = S 88) (hc : ∀ m : Nat, 8 ≤ m → m < 16 → S' m = S m) : R5 S' := by
  unfold R5
  rw [h0, h1, h8, kw_eq h7, kw_eq h7, vw_eq (i := 2) (fun m a b => hc m (by omega) (by omega)), vw_eq (i := 3) (fun m a b => hc m (by omega) (by omega))]
  exact h
/-- quiet: of the class, of the reference -/
def qC (S S' : SS) : Prop := (∀ m : Nat, m < 82 → (m < 4 ∨ 8 ≤ m) → m ≠ 77 → m ≠ 78 → m ≠ 79 → S' m = S m) ∧ S' 78 0 = 0 ∧ ∀ m : Nat, 82 ≤ m → m ≠ 91 → S' m = S m
def qM (S S' : SS) : Prop := (∀ m : Nat, m ≠ 82 → m ≠ 85 → m ≠ 89 → m ≠ 90 → S' m = S m) ∧ S' 82 1 = S 82 1 ∧ S' 82 2 = S 82 2
theorem RR_q {S S1 S2 : SS} (h : RR S) (h1 : qC S S1) (h2 : qM S1 S2) : RR S2 := by
  obtain ⟨a, b, d, e, f⟩ := h
  obtain ⟨c1, c2, c3⟩ := h1
  obtain ⟨m1, m2, m3⟩ := h2
  have k : ∀ m : Nat, m < 82 → (m < 4 ∨ 8 ≤ m) → m ≠ 77 → m ≠ 78 → m ≠ 79 → S2 m = S m := fun m x1 x2 x3 x4 x5 => (m1 m (by omega) (by omega) (by omega) (by omega)).trans (c1 m x1 x2 x3 x4 x5)
  have r : ∀ m : Nat, 83 ≤ m → m ≠ 85 → m ≠ 89 → m ≠ 90 → m ≠ 91 → S2 m = S m := fun m x1 x2 x3 x4 x5 => (m1 m (by omega) x2 x3 x4).trans (c3 m (by omega) x5)
  have e1 : S2 82 1 = S 82 1 := m2.trans (congrFun (c3 82 (by omega) (by omega)) 1)
  have e2 : S2 82 2 = S 82 2 := m3.trans (congrFun (c3 82 (by omega) (by omega)) 2)
  refine ⟨?_, R2_k b (congrFun (k 73 (by omega) (by omega) (by omega) (by omega) (by omega)) 0) (k 74 (by omega) (by omega) (by omega) (by omega) (by omega)) e1 (r 83 (by omega) (by omega) (by omega) (by omega) (by omega)), R3_k d (congrFun (k 75 (by omega) (by omega) (by omega) (by omega) (by omega)) 0) (congrFun (k 75 (by omega) (by omega) (by omega) (by omega) (by omega)) 1) e2 (r 86 (by omega) (by omega) (by omega) (by omega) (by omega)) (fun m x y => k m (by omega) (by omega) (by omega) (by omega) (by omega)), ?_, R5_k f (congrFun (k 80 (by omega) (by omega) (by omega) (by omega) (by omega)) 0) (congrFun (k 81 (by omega) (by omega) (by omega) (by omega) (by omega)) 0) (r 87 (by omega) (by omega) (by omega) (by omega) (by omega)) (r 88 (by omega) (by omega) (by omega) (by omega) (by omega)) (fun m x y => k m (by omega) (by omega) (by omega) (by omega) (by omega))⟩
  · rw [vw_eq (S := S) (i := 0) (fun m x y => k m (by omega) (by omega) (by omega) (by omega) (by omega)), mw_eq (S := S) (r 84 (by omega) (by omega) (by omega) (by omega) (by omega))]
    exact a
  · rw [m1 78 (by omega) (by omega) (by omega) (by omega)]; exact c2
/-- a change: of the class, of the reference -/
def hC (S S' : SS) (G : Int → Int) : Prop := vw S' 0 = G ∧ vw S' (4 + (S 75 0).toNat) = vw S 0 ∧ (S' 75 0 = hxN (S 75 0) ∧ S' 75 1 = hxC (S 75 1)) ∧ S' 78 0 = 0 ∧ (∀ m : Nat, 4 ≤ m → m < 82 → m ≠ 75 → (m < 4 * (4 + (S 75 0).toNat) ∨ 4 * (4 + (S 75 0).toNat) + 4 ≤ m) → m ≠ 77 → m ≠ 78 → m ≠ 79 → S' m = S m) ∧ ∀ m : Nat, 82 ≤ m → m ≠ 91 → S' m = S m
def hM (S S' : SS) (G : Int → Int) : Prop := mw S' 84 = G ∧ ∀ m : Nat, m ≠ 84 → m ≠ 85 → m ≠ 89 → m ≠ 90 → S' m = rmU (us S 82 (uq (S 82) 0 0)) m
theorem rmU_lo (S : SS) {m : Nat} (h2 : m ≠ 82) (h6 : m ≠ 86) : rmU S m = S m := by
  unfold rmU
  rw [us_a h2, us_a h6]
theorem rmU_86 (S : SS) : rmU S 86 = cpF (rmB (S 86) (S 82 2)) (S 84) 0 (54 * rmA (S 82 2)) 54 := by
  unfold rmU
  rw [us_a (by decide), us_eq]
theorem rmU_82 (S : SS) : rmU S 82 = uq (S 82) 2 (rmA (S 82 2) + 1) := us_eq _ _ _
theorem dw_new (S : SS) : dwR (rmU S) (rmA (S 82 2)) = mw S 84 := by
  funext c
  unfold dwR mw
  rw [rmU_86]
  by_cases h : 0 ≤ c ∧ c < 54
  · rw [if_pos h, if_pos h, cpF, if_pos (by omega), show 0 + (54 * rmA (S 82 2) + c - 54 * rmA (S 82 2)) = c by omega]
  · rw [if_neg h, if_neg h]
theorem dw_old {S : SS} (ha : 0 ≤ S 82 2 ∧ S 82 2 ≤ 14) {j : Int} (j0 : 0 ≤ j) (j1 : j < rmA (S 82 2)) : dwR (rmU S) j = dwR S (j + (S 82 2 - rmA (S 82 2))) := by
  funext c
  unfold dwR
  rw [rmU_86]
  by_cases h : 0 ≤ c ∧ c < 54
  · rw [if_pos h, if_pos h, cpF, if_neg (by omega)]
    unfold rmB rmA
    unfold rmA at j1
    by_cases e : S 82 2 = 14
    · rw [if_pos e] at j1
      rw [if_pos e, if_pos e, shD, if_pos (by omega), e]
      exact congrArg _ (by omega)
    · rw [if_neg e, if_neg e]
      exact congrArg _ (by omega)
  · rw [if_neg h, if_neg h]
theorem RR_h {S S1 S2 : SS} {G G' : Int → Int} (h : RR S) (hg : good G G') (h1 : hC S S1 G) (h2 : hM S1 S2 G') : RR S2 := by
  obtain ⟨a, b, ⟨d1, d2, d3, d4⟩, e, f⟩ := h
  obtain ⟨c1, c2, ⟨c3, c4⟩, c5, c6, c7⟩ := h1
  obtain ⟨m1, m2⟩ := h2
  have r : ∀ m : Nat, m < 82 ∨ 83 ≤ m → m ≠ 84 → m ≠ 85 → m ≠ 86 → m ≠ 89 → m ≠ 90 → S2 m = S1 m := fun m x0 x1 x2 x3 x4 x5 => by
    rw [m2 m x1 x2 x4 x5, rmU_lo _ (by omega) x3, us_a (by omega)]
  have k : ∀ m : Nat, 4 ≤ m → m < 82 → m ≠ 75 → (m < 4 * (4 + (S 75 0).toNat) ∨ 4 * (4 + (S 75 0).toNat) + 4 ≤ m) → m ≠ 77 → m ≠ 78 → m ≠ 79 → S2 m = S m := fun m x1 x2 x3 x4 x5 x6 x7 => (r m (by omega) (by omega) (by omega) (by omega) (by omega) (by omega)).trans (c6 m x1 x2 x3 x4 x5 x6 x7)
  have s : ∀ m : Nat, 83 ≤ m → m ≠ 84 → m ≠ 85 → m ≠ 86 → m ≠ 89 → m ≠ 90 → m ≠ 91 → S2 m = S m := fun m x1 x2 x3 x4 x5 x6 x7 => (r m (by omega) x2 x3 x4 x5 x6).trans (c7 m (by omega) x7)
  have e82 : S1 82 = S 82 := c7 82 (by omega) (by omega)
  have e86 : S1 86 = S 86 := c7 86 (by omega) (by omega)
  have e84 : S1 84 = S 84 := c7 84 (by omega) (by omega)
  -- the reference's cells after its remembering
  have t82 : S2 82 = uq (uq (S 82) 0 0) 2 (rmA (S 82 2) + 1) := by
    rw [m2 82 (by omega) (by omega) (by omega) (by omega), rmU_82, us_eq, e82, uq_ne _ _ (show (2 : Int) ≠ 0 by decide)]
  have t86 : ∀ j : Int, dwR S2 j = dwR (rmU (us S1 82 (uq (S1 82) 0 0))) j := dw_eq (m2 86 (by omega) (by omega) (by omega) (by omega))
  have u2 : (us S1 82 (uq (S1 82) 0 0)) 82 2 = S 75 1 := by rw [us_eq, uq_ne _ _ (by decide), e82, d3]
  have eA : rmA (S 82 2) + 1 = hxC (S 75 1) := by rw [d3]; unfold rmA hxC; split <;> split <;> omega
  have eC : S2 75 1 = hxC (S 75 1) := by rw [r 75 (by omega) (by omega) (by omega) (by omega) (by omega) (by omega)]; exact c4
  have eN : S2 75 0 = hxN (S 75 0) := by rw [r 75 (by omega) (by omega) (by omega) (by omega) (by omega) (by omega)]; exact c3
  refine ⟨?_, R2_k b (congrFun (k 73 (by omega) (by omega) (by omega) (by omega) (by omega) (by omega) (by omega)) 0) (k 74 (by omega) (by omega) (by omega) (by omega) (by omega) (by omega) (by omega)) ?_ (s 83 (by omega) (by omega) (by omega) (by omega) (by omega) (by omega) (by omega)), ⟨?_, ?_, ?_, fun q hq => ?_⟩, ?_, R5_k f (congrFun (k 80 (by omega) (by omega) (by omega) (by omega) (by omega) (by omega) (by omega)) 0) (congrFun (k 81 (by omega) (by omega) (by omega) (by omega) (by omega) (by omega) (by omega)) 0) (s 87 (by omega) (by omega) (by omega) (by omega) (by omega) (by omega) (by omega)) (s 88 (by omega) (by omega) (by omega) (by omega) (by omega) (by omega) (by omega)) (fun m x y => k m (by omega) (by omega) (by omega) (by omega) (by omega) (by omega) (by omega))⟩
  · rw [vw_eq (S := S1) (i := 0) (fun m x y => r m (by omega) (by omega) (by omega) (by omega) (by omega) (by omega)), m1, c1]
    exact hg
  · rw [t82, uq_ne _ _ (by decide), uq_ne _ _ (by decide)]
  · rw [eN]; unfold hxN; split <;> omega
  · rw [eC]; unfold hxC; split <;> omega
  · rw [eC, t82, uq_eq, eA]
  · rw [eC] at hq ⊢
    rw [eN]
    have hcc : hxC (S 75 1) ≤ 14 := by unfold hxC; split <;> omega
    have hA2 : rmA (S 75 1) + 1 = hxC (S 75 1) := by have z := eA; rw [d3] at z; exact z
    rcases Nat.eq_zero_or_pos q with hq0 | hq0
    · subst hq0
      have e1 : hix (hxN (S 75 0)) 0 = (S 75 0).toNat := by unfold hix hxN; split <;> omega
      have e2 : hxC (S 75 1) - 1 - ((0 : Nat) : Int) = rmA ((us S1 82 (uq (S1 82) 0 0)) 82 2) := by rw [u2]; omega
      rw [e1, e2, t86, dw_new, mw_eq (S := S) (by rw [us_a (by decide)]; exact e84), vw_eq (S := S1) (fun m x y => r m (by omega) (by omega) (by omega) (by omega) (by omega) (by omega)), c2]
      exact a
    · have e1 : hix (hxN (S 75 0)) q = hix (S 75 0) (q - 1) := by unfold hix hxN; split <;> omega
      have hx : hix (S 75 0) (q - 1) < 14 ∧ hix (S 75 0) (q - 1) ≠ (S 75 0).toNat := by unfold hix; omega
      have hx1 := hx.1
      have hx2 := hx.2
      have hq1 : ((q - 1 : Nat) : Int) < S 75 1 := by unfold hxC at hq; split at hq <;> omega
      have e3 := d4 (q - 1) hq1
      have e2 : dwR S2 (hxC (S 75 1) - 1 - (q : Int)) = dwR S (S 75 1 - 1 - ((q - 1 : Nat) : Int)) := by
        rw [t86, dw_old (by rw [u2]; exact d2) (by omega) (by rw [u2]; omega), u2, dw_eq (S := S) (by rw [us_a (by decide)]; exact e86)]
        exact congrArg _ (by omega)
      rw [e1, e2, vw_eq (S := S) (fun m x y => k m (by omega) (by omega) (by omega) (by omega) (by omega) (by omega) (by omega))]
      exact e3
  · rw [r 78 (by omega) (by omega) (by omega) (by omega) (by omega) (by omega)]; exact c5
