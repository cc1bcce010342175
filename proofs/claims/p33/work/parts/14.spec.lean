/-! THE NUMBERS: a necklace's state as one row of whole numbers: 0 jewels, 1 broken, 2 mover, 3 refused, 4 setting, 5 cuts, 6.. kinds, 22.. weights, 38.. owners -/
def sm (f : Int → Int) : Nat → Int
  | 0 => 0
  | n + 1 => sm f n + f n
theorem sm_s (f : Int → Int) (n : Nat) : sm f (n + 1) = sm f n + f n := rfl
theorem sm_cong {f g : Int → Int} : ∀ {n : Nat}, (∀ p : Int, 0 ≤ p → p < n → f p = g p) → sm f n = sm g n
  | 0, _ => rfl
  | n + 1, h => by
    rw [sm_s, sm_s, sm_cong (fun p h0 h1 => h p h0 (by omega)), h n (by omega) (by omega)]
theorem sm_le {f g : Int → Int} : ∀ {n : Nat}, (∀ p : Int, 0 ≤ p → p < n → f p ≤ g p) → sm f n ≤ sm g n
  | 0, _ => Int.le_refl _
  | n + 1, h => by
    have h1 := sm_le (f := f) (g := g) (n := n) (fun p h0 h1 => h p h0 (by omega))
    have h2 := h n (by omega) (by omega)
    rw [sm_s, sm_s]
    omega
theorem sm_const (c : Int) : ∀ n : Nat, sm (fun _ => c) n = n * c
  | 0 => by rw [sm]; omega
  | n + 1 => by
    rw [sm_s, sm_const c n]
    have : ((n + 1 : Nat) : Int) * c = n * c + c := by rw [Int.natCast_add, Int.add_mul]; omega
    omega
theorem sm_bd {f : Int → Int} {c : Int} {n : Nat} (h : ∀ p : Int, 0 ≤ p → p < n → 0 ≤ f p ∧ f p ≤ c) : 0 ≤ sm f n ∧ sm f n ≤ n * c := by
  have h1 := sm_le (f := fun _ => 0) (g := f) (n := n) (fun p h0 h1 => (h p h0 h1).1)
  have h2 := sm_le (f := f) (g := fun _ => c) (n := n) (fun p h0 h1 => (h p h0 h1).2)
  rw [sm_const] at h1 h2
  omega
def cn (c : Nat) : Nat → Nat
  | 0 => 0
  | n + 1 => cn c n + (if c.testBit n then 1 else 0)
theorem cn_s (c n : Nat) : cn c (n + 1) = cn c n + (if c.testBit n then 1 else 0) := rfl
theorem cn_le (c : Nat) : ∀ n, cn c n ≤ n
  | 0 => Nat.le_refl _
  | n + 1 => by
    have := cn_le c n
    rw [cn_s]
    split <;> omega
theorem cn_mono (c : Nat) {m n : Nat} (h : m ≤ n) : cn c m ≤ cn c n := by
  induction n with
  | zero => rw [Nat.le_zero.mp h]; exact Nat.le_refl _
  | succ n ih =>
    rcases Nat.lt_or_ge m (n + 1) with h1 | h1
    · have := ih (by omega)
      rw [cn_s]
      omega
    · rw [show m = n + 1 by omega]
      exact Nat.le_refl _
theorem cn_cong {c d : Nat} : ∀ {n : Nat}, (∀ p, p < n → c.testBit p = d.testBit p) → cn c n = cn d n
  | 0, _ => rfl
  | n + 1, h => by rw [cn_s, cn_s, cn_cong (fun p hp => h p (by omega)), h n (by omega)]
theorem cn_stop (c : Nat) {m n : Nat} (h : m ≤ n) (hb : ∀ p, m ≤ p → p < n → c.testBit p = false) : cn c n = cn c m := by
  induction n with
  | zero => rw [Nat.le_zero.mp h]
  | succ n ih =>
    rcases Nat.lt_or_ge m (n + 1) with h1 | h1
    · rw [cn_s, ih (by omega) (fun p a b => hb p a (by omega)), hb n (by omega) (by omega)]
      rfl
    · rw [show m = n + 1 by omega]
def absI (a : Int) : Int := if 0 ≤ a then a else -a
theorem absI_0 (a : Int) : 0 ≤ absI a := by unfold absI; split <;> omega
theorem absI_le {a c : Int} (h1 : -c ≤ a) (h2 : a ≤ c) : absI a ≤ c := by unfold absI; split <;> omega
def runF (g : Int → Int) (p : Int) : Int := cn (g 5).toNat (p.toNat + 1)
def runsF (g : Int → Int) : Int := if g 0 = 0 then 0 else (cn (g 5).toNat 16 : Int) + 1
def jatF (g : Int → Int) (p : Int) : Int := (g 1 + p) % g 0
def valF (g : Int → Int) (j : Int) : Int := if g 4 = 0 then 1 else g (22 + j)
def hasE (g : Int → Int) (s k p : Int) : Int := if g (38 + p) = s ∧ g (6 + jatF g p) = k then valF g (jatF g p) else 0
def hasF (g : Int → Int) (s k : Int) : Int := sm (hasE g s k) (g 0).toNat
def gapE (g : Int → Int) (k : Int) : Int := absI (hasF g 0 k - hasF g 1 k)
def gapF (g : Int → Int) : Int := sm (gapE g) 4
def nobE (g : Int → Int) (p : Int) : Int := if g (38 + p) = -1 then 1 else 0
def nobF (g : Int → Int) : Int := sm (nobE g) (g 0).toNat
def fpE (g : Int → Int) (r p : Int) : Int := if runF g p < r then 1 else 0
def fpF (g : Int → Int) (r : Int) : Int := sm (fpE g r) 16
def plE (g : Int → Int) (r p : Int) : Int := if runF g p = r then 1 else 0
def plF (g : Int → Int) (r : Int) : Int := sm (plE g r) (g 0).toNat
def rvE (g : Int → Int) (r p : Int) : Int := if runF g p = r then valF g (jatF g p) else 0
def rvF (g : Int → Int) (r : Int) : Int := sm (rvE g r) (g 0).toNat
def whyF (g : Int → Int) (r : Int) : Int := if g (38 + fpF g r) = -1 then 0 else if g (38 + fpF g r) = g 2 then 2 else 1
def freeF (g : Int → Int) : Int → Int := fun c => if c = 5 then 0 else if 38 ≤ c ∧ c < 54 then -1 else g c
def addF (g : Int → Int) (k w : Int) : Int → Int := freeF (uq (uq (uq g (6 + g 0) k) (22 + g 0) w) 0 (g 0 + 1))
def swapF (g : Int → Int) (i j : Int) : Int → Int := uq (uq (uq (uq g (6 + i) (g (6 + j))) (22 + i) (g (22 + j))) (6 + j) (g (6 + i))) (22 + j) (g (22 + i))
def brkF (g : Int → Int) (j : Int) : Int → Int := freeF (uq g 1 j)
/-- the first m exchanges of a turn -/
def rotF (g : Int → Int) (m : Int) : Int → Int := fun c =>
  if 6 ≤ c ∧ c < 6 + g 0 ∧ (c - 6 < m ∨ g 0 - 1 - (c - 6) < m) then g (6 + (g 0 - 1 - (c - 6)))
  else if 22 ≤ c ∧ c < 22 + g 0 ∧ (c - 22 < m ∨ g 0 - 1 - (c - 22) < m) then g (22 + (g 0 - 1 - (c - 22)))
  else g c
def revF (g : Int → Int) : Int → Int := freeF (rotF g (g 0))
def giveF (g : Int → Int) (r o : Int) : Int → Int := fun c => if 38 ≤ c ∧ c < 38 + g 0 ∧ runF g (c - 38) = r then o else g c
def cutOnF (g : Int → Int) (p : Int) : Int → Int := uq g 5 (((g 5).toNat ||| 2 ^ p.toNat : Nat) : Int)
def uncF (g : Int → Int) (p : Int) : Int → Int := uq g 5 (((g 5).toNat ^^^ 2 ^ p.toNat : Nat) : Int)
def cutOffF (g : Int → Int) (p : Int) : Int → Int := if (g 5).toNat.testBit p.toNat then giveF (uncF g p) (runF (uncF g p) p) (g (38 + (p - 1))) else g
def cutF (g : Int → Int) (p : Int) (on : Prop) [Decidable on] : Int → Int := if on then cutOnF g p else cutOffF g p
def takeF (g : Int → Int) (r : Int) : Int → Int := uq (giveF g r (g 2)) 2 (1 - g 2)
def dealF (g : Int → Int) (s : Int) : Int → Int := fun c => if 38 ≤ c ∧ c < 38 + g 0 then (s + runF g (c - 38)) % 2 else g c
def newF (g : Int → Int) : Int → Int := fun c => if 0 ≤ c ∧ c < 6 then 0 else if 38 ≤ c ∧ c < 54 then -1 else g c
/-- what is so of every necklace -/
def wf (g : Int → Int) : Prop :=
  (0 ≤ g 0 ∧ g 0 ≤ 16) ∧ (0 ≤ g 1 ∧ (g 1 < g 0 ∨ (g 0 = 0 ∧ g 1 = 0))) ∧ (0 ≤ g 2 ∧ g 2 ≤ 1) ∧ (0 ≤ g 4 ∧ g 4 ≤ 1) ∧ (0 ≤ g 5 ∧ g 5 < 65536) ∧
  (∀ p : Nat, (g 5).toNat.testBit p = true → 1 ≤ p ∧ (p : Int) < g 0) ∧
  (∀ j : Int, 0 ≤ j → j < g 0 → (0 ≤ g (6 + j) ∧ g (6 + j) < 4) ∧ 1 ≤ g (22 + j) ∧ g (22 + j) ≤ 9) ∧
  (∀ p : Int, 0 ≤ p → p < 16 → -1 ≤ g (38 + p) ∧ g (38 + p) ≤ 1) ∧
  (∀ p : Int, 1 ≤ p → p < g 0 → (g 5).toNat.testBit p.toNat = false → g (38 + p) = g (38 + (p - 1)))
/-- the class's necklace i as a row; nothing but 0 beyond it -/
def vw (S : SS) (i : Nat) : Int → Int := fun c => if c < 0 then 0 else if c < 6 then S (4 * i) c else if c < 22 then S (4 * i + 1) (c - 6) else if c < 38 then S (4 * i + 2) (c - 22) else if c < 54 then S (4 * i + 3) (c - 38) else 0
theorem vw_f (S : SS) (i : Nat) {j : Int} (h0 : 0 ≤ j) (h : j < 6) : vw S i j = S (4 * i) j := by
  rw [vw, if_neg (by omega), if_pos h]
theorem vw_k (S : SS) (i : Nat) {j : Int} (h0 : 0 ≤ j) (h : j < 16) : vw S i (6 + j) = S (4 * i + 1) j := by
  rw [vw, if_neg (by omega), if_neg (by omega), if_pos (by omega), show 6 + j - 6 = j by omega]
theorem vw_w (S : SS) (i : Nat) {j : Int} (h0 : 0 ≤ j) (h : j < 16) : vw S i (22 + j) = S (4 * i + 2) j := by
  rw [vw, if_neg (by omega), if_neg (by omega), if_neg (by omega), if_pos (by omega), show 22 + j - 22 = j by omega]
theorem vw_o (S : SS) (i : Nat) {j : Int} (h0 : 0 ≤ j) (h : j < 16) : vw S i (38 + j) = S (4 * i + 3) j := by
  rw [vw, if_neg (by omega), if_neg (by omega), if_neg (by omega), if_neg (by omega), if_pos (by omega), show 38 + j - 38 = j by omega]
theorem us_a {S : SS} {n m : Nat} {g : Int → Int} (h : m ≠ n) : us S n g m = S m := us_ne S g h
theorem vw_us0 (S : SS) (i : Nat) {c x : Int} (h0 : 0 ≤ c) (h : c < 6) : vw (us S (4 * i) (uq (S (4 * i)) c x)) i = uq (vw S i) c x := by
  funext b
  unfold vw
  rw [us_eq, us_a (show 4 * i + 1 ≠ 4 * i by omega), us_a (show 4 * i + 2 ≠ 4 * i by omega), us_a (show 4 * i + 3 ≠ 4 * i by omega)]
  unfold uq
  by_cases e : b = c
  · subst e; rw [if_neg (by omega), if_pos h, if_pos rfl, if_pos rfl]
  · rw [if_neg e, if_neg e]
theorem vw_us1 (S : SS) (i : Nat) {j x : Int} (h0 : 0 ≤ j) (h : j < 16) : vw (us S (4 * i + 1) (uq (S (4 * i + 1)) j x)) i = uq (vw S i) (6 + j) x := by
  funext b
  unfold vw
  rw [us_eq, us_a (show 4 * i ≠ 4 * i + 1 by omega), us_a (show 4 * i + 2 ≠ 4 * i + 1 by omega), us_a (show 4 * i + 3 ≠ 4 * i + 1 by omega)]
  unfold uq
  by_cases e : b = 6 + j
  · subst e; rw [if_neg (by omega), if_neg (by omega), if_pos (by omega), if_pos (by omega), if_pos rfl]
  · rw [if_neg (show ¬ b - 6 = j by omega), if_neg e]
theorem vw_us2 (S : SS) (i : Nat) {j x : Int} (h0 : 0 ≤ j) (h : j < 16) : vw (us S (4 * i + 2) (uq (S (4 * i + 2)) j x)) i = uq (vw S i) (22 + j) x := by
  funext b
  unfold vw
  rw [us_eq, us_a (show 4 * i ≠ 4 * i + 2 by omega), us_a (show 4 * i + 1 ≠ 4 * i + 2 by omega), us_a (show 4 * i + 3 ≠ 4 * i + 2 by omega)]
  unfold uq
  by_cases e : b = 22 + j
  · subst e; rw [if_neg (by omega), if_neg (by omega), if_neg (by omega), if_pos (by omega), if_pos (by omega), if_pos rfl]
  · rw [if_neg (show ¬ b - 22 = j by omega), if_neg e]
theorem vw_us3 (S : SS) (i : Nat) {j x : Int} (h0 : 0 ≤ j) (h : j < 16) : vw (us S (4 * i + 3) (uq (S (4 * i + 3)) j x)) i = uq (vw S i) (38 + j) x := by
  funext b
  unfold vw
  rw [us_eq, us_a (show 4 * i ≠ 4 * i + 3 by omega), us_a (show 4 * i + 1 ≠ 4 * i + 3 by omega), us_a (show 4 * i + 2 ≠ 4 * i + 3 by omega)]
  unfold uq
  by_cases e : b = 38 + j
  · subst e; rw [if_neg (by omega), if_neg (by omega), if_neg (by omega), if_neg (by omega), if_pos (by omega), if_pos (by omega), if_pos rfl]
  · rw [if_neg (show ¬ b - 38 = j by omega), if_neg e]
/-- nothing but the necklace i is another -/
def fr (S S' : SS) (i : Nat) : Prop := ∀ m : Nat, (m < 4 * i ∨ 4 * i + 4 ≤ m) → S' m = S m
theorem fr.rf {S : SS} {i : Nat} : fr S S i := fun _ _ => rfl
theorem fr.tr {S S1 S2 : SS} {i : Nat} (h1 : fr S S1 i) (h2 : fr S1 S2 i) : fr S S2 i := fun m h => (h2 m h).trans (h1 m h)
theorem fr_us {S : SS} {i : Nat} (c : Nat) {g : Int → Int} (hc : c < 4) : fr S (us S (4 * i + c) g) i := fun m h => us_a (by omega)
theorem fr_vw {S S' : SS} {i j : Nat} (h : fr S S' i) (hj : j ≠ i) : vw S' j = vw S j := by
  funext c
  unfold vw
  rw [h (4 * j) (by omega), h (4 * j + 1) (by omega), h (4 * j + 2) (by omega), h (4 * j + 3) (by omega)]
theorem jatF_in {g : Int → Int} (h : wf g) {p : Int} (h0 : 0 ≤ p) (h1 : p < g 0) : 0 ≤ jatF g p ∧ jatF g p < g 0 := by
  obtain ⟨a1, a2, -⟩ := h
  exact ⟨Int.emod_nonneg _ (by omega), Int.emod_lt_of_pos _ (by omega)⟩
theorem jatF_lo {g : Int → Int} {p : Int} (h0 : 0 ≤ g 1 + p) (h1 : g 1 + p < g 0) : jatF g p = g 1 + p := Int.emod_eq_of_lt h0 h1
theorem jatF_hi {g : Int → Int} {p : Int} (h0 : g 0 ≤ g 1 + p) (h1 : g 1 + p < g 0 + g 0) : jatF g p = g 1 + p - g 0 := by
  rw [jatF, ← Int.emod_eq_of_lt (a := g 1 + p - g 0) (b := g 0) (by omega) (by omega), Int.sub_emod_right]
theorem valF_in {g : Int → Int} (h : wf g) {j : Int} (h0 : 0 ≤ j) (h1 : j < g 0) : 1 ≤ valF g j ∧ valF g j ≤ 9 := by
  obtain ⟨a1, a2, a3, a4, a5, a6, a7, -⟩ := h
  have := a7 j h0 h1
  unfold valF
  split <;> omega
theorem hasF_in {g : Int → Int} (h : wf g) (s k : Int) : 0 ≤ hasF g s k ∧ hasF g s k ≤ 144 := by
  have h1 := sm_bd (f := hasE g s k) (c := 9) (n := (g 0).toNat) (fun p h0 h1 => by
    have hn := h.1
    have h2 := jatF_in h h0 (by omega)
    have h3 := valF_in h h2.1 h2.2
    unfold hasE
    split <;> omega)
  have := h.1
  unfold hasF
  omega
theorem gapF_in {g : Int → Int} (h : wf g) : 0 ≤ gapF g ∧ gapF g ≤ 576 := by
  have h1 := sm_bd (f := gapE g) (c := 144) (n := 4) (fun p _ _ => by
    have h2 := hasF_in h 0 p
    have h3 := hasF_in h 1 p
    exact ⟨absI_0 _, absI_le (by omega) (by omega)⟩)
  unfold gapF
  omega
theorem cn_16 (c : Nat) : cn c 16 ≤ 16 := cn_le c 16
theorem runsF_in (g : Int → Int) : 0 ≤ runsF g ∧ runsF g ≤ 17 := by
  have := cn_16 (g 5).toNat
  unfold runsF
  split <;> omega
theorem runF_in (g : Int → Int) {p : Int} (h : p < 16) : 0 ≤ runF g p ∧ runF g p ≤ 16 := by
  have h1 := cn_le (g 5).toNat (p.toNat + 1)
  unfold runF
  omega
