/-! the reference: its rows of 54 numbers are the cells 84 (now) and 85 (trial) -/
def isM (n : Nat) : Prop := n = 84 ∨ n = 85
def isA (n N : Nat) : Prop := (n = 84 ∧ N = 54) ∨ (n = 85 ∧ N = 54) ∨ (n = 86 ∧ N = 756) ∨ (n = 87 ∧ N = 108)
theorem isA_lt {n N : Nat} (h : isA n N) : N < 2147483648 := by
  rcases h with ⟨rfl, rfl⟩ | ⟨rfl, rfl⟩ | ⟨rfl, rfl⟩ | ⟨rfl, rfl⟩ <;> decide
def mw (S : SS) (n : Nat) : Int → Int := fun c => if 0 ≤ c ∧ c < 54 then S n c else 0
theorem mw_e (S : SS) (n : Nat) {c : Int} (h0 : 0 ≤ c) (h1 : c < 54) : mw S n c = S n c := if_pos ⟨h0, h1⟩
theorem mw_out (S : SS) (n : Nat) {c : Int} (h : c < 0 ∨ 54 ≤ c) : mw S n c = 0 := if_neg (by omega)
theorem mw_us (S : SS) (n : Nat) {c x : Int} (h0 : 0 ≤ c) (h1 : c < 54) : mw (us S n (uq (S n) c x)) n = uq (mw S n) c x := by
  funext b
  unfold mw
  rw [us_eq]
  unfold uq
  by_cases e : b = c
  · subst e; rw [if_pos ⟨h0, h1⟩, if_pos rfl, if_pos rfl]
  · rw [if_neg e, if_neg e]
/-- nothing but the cell n is another -/
def fm (S S' : SS) (n : Nat) : Prop := ∀ m : Nat, m ≠ n → S' m = S m
theorem fm.rf {S : SS} {n : Nat} : fm S S n := fun _ _ => rfl
theorem fm.tr {S S1 S2 : SS} {n : Nat} (h1 : fm S S1 n) (h2 : fm S1 S2 n) : fm S S2 n := fun m h => (h2 m h).trans (h1 m h)
theorem fm_us {S : SS} {n : Nat} {g : Int → Int} : fm S (us S n g) n := fun _ h => us_a h
/-- wf of the reference's row n, said of its places -/
def wfD (S : SS) (n : Nat) : Prop :=
  (0 ≤ S n 0 ∧ S n 0 ≤ 16) ∧ (0 ≤ S n 1 ∧ (S n 1 < S n 0 ∨ (S n 0 = 0 ∧ S n 1 = 0))) ∧ (0 ≤ S n 2 ∧ S n 2 ≤ 1) ∧ (0 ≤ S n 4 ∧ S n 4 ≤ 1) ∧ (0 ≤ S n 5 ∧ S n 5 < 65536) ∧
  (∀ p : Nat, (S n 5).toNat.testBit p = true → 1 ≤ p ∧ (p : Int) < S n 0) ∧
  (∀ j : Int, 0 ≤ j → j < S n 0 → (0 ≤ S n (6 + j) ∧ S n (6 + j) < 4) ∧ 1 ≤ S n (22 + j) ∧ S n (22 + j) ≤ 9) ∧
  (∀ p : Int, 0 ≤ p → p < 16 → -1 ≤ S n (38 + p) ∧ S n (38 + p) ≤ 1)
theorem wfT {S : SS} {n : Nat} (h : wf (mw S n)) : wfD S n := by
  obtain ⟨a1, a2, a3, a4, a5, a6, a7, a8, a9⟩ := h
  refine ⟨a1, a2, a3, a4, a5, a6, fun j h0 h1 => ?_, fun p h0 h1 => ?_⟩
  · have h2 := a7 j h0 h1
    have h3 : j < 16 := Int.lt_of_lt_of_le h1 a1.2
    rw [mw_e S n (by omega) (by omega), mw_e S n (by omega) (by omega)] at h2
    exact h2
  · have h2 := a8 p h0 h1
    rw [mw_e S n (by omega) (by omega)] at h2
    exact h2
theorem mw_0 (S : SS) (n : Nat) : mw S n 0 = S n 0 := rfl
theorem mw_1 (S : SS) (n : Nat) : mw S n 1 = S n 1 := rfl
theorem mw_2 (S : SS) (n : Nat) : mw S n 2 = S n 2 := rfl
theorem mw_3 (S : SS) (n : Nat) : mw S n 3 = S n 3 := rfl
theorem mw_4 (S : SS) (n : Nat) : mw S n 4 = S n 4 := rfl
theorem mw_5 (S : SS) (n : Nat) : mw S n 5 = S n 5 := rfl
/-- jewels, and cuts, none of them ahead of the place 0 -/
def wb (g : Int → Int) : Prop := wq g ∧ (g 5).toNat.testBit 0 = false
theorem wf.b {g : Int → Int} (h : wf g) : wb g := ⟨h.q, by
  cases hb : (g 5).toNat.testBit 0 with
  | false => rfl
  | true => have := (h.2.2.2.2.2.1 0 hb).1; omega⟩
theorem runF_0b {g : Int → Int} (h : wb g) : runF g 0 = 0 := by
  show ((cn (g 5).toNat 1 : Nat) : Int) = 0
  rw [cn_s, h.2]
  rfl
theorem wb_of {g h : Int → Int} (hg : wb g) (e0 : h 0 = g 0) (e5 : h 5 = g 5) : wb h := by
  unfold wb wq at *
  rw [e0, e5]
  exact hg
theorem iI_shr {c p : Int} (h0 : 0 ≤ c) (h1 : c < 2147483648) (p0 : 0 ≤ p) (p1 : p < 32) : iI c >>> (iI p &&& 31) = iI (c / 2 ^ p.toNat) := by
  obtain ⟨n, rfl⟩ := Int.eq_ofNat_of_zero_le h0
  obtain ⟨d, rfl⟩ := Int.eq_ofNat_of_zero_le p0
  rw [iI_nat, iI_nat, pk_shrN (by omega) (nI d &&& 31) d (s_lx ⟨d, by omega⟩), ← iI_nat]
  congr 1
def newM : Int → Int := freeF (fun _ => 0)
theorem wf_newM : wf newM := wf_free ⟨by decide, by decide⟩ ⟨by decide, Or.inr ⟨rfl, rfl⟩⟩ ⟨by decide, by decide⟩ ⟨by decide, by decide⟩ (fun j h0 h1 => by have h2 : j < 0 := h1; omega)
def zerF (g : Int → Int) (k : Nat) : Int → Int := fun c => if 0 ≤ c ∧ c < k then 0 else g c
theorem zerF_s (g : Int → Int) (k : Nat) : uq (zerF g k) k 0 = zerF g (k + 1) := by
  funext c
  unfold uq zerF
  by_cases e : c = k
  · rw [if_pos e, if_pos (by omega)]
  · rw [if_neg e]
    by_cases e2 : 0 ≤ c ∧ c < k
    · rw [if_pos e2, if_pos (by omega)]
    · rw [if_neg e2, if_neg (by omega)]
theorem zerF_0 (g : Int → Int) : zerF g 0 = g := by
  funext c; unfold zerF; rw [if_neg (by omega)]
theorem zerF_54 (S : SS) (n : Nat) : zerF (mw S n) 54 = fun _ => 0 := by
  funext c
  unfold zerF
  by_cases e : 0 ≤ c ∧ c < ((54 : Nat) : Int)
  · rw [if_pos e]
  · rw [if_neg e, mw_out S n (by omega)]
/-- a state copied -/
def cpF (g h : Int → Int) (a b : Int) (k : Nat) : Int → Int := fun c => if b ≤ c ∧ c < b + k then h (a + (c - b)) else g c
theorem cpF_0 (g h : Int → Int) (a b : Int) : cpF g h a b 0 = g := by
  funext c; unfold cpF; rw [if_neg (by omega)]
theorem cpF_s (g h : Int → Int) (a b : Int) (k : Nat) : uq (cpF g h a b k) (b + k) (h (a + k)) = cpF g h a b (k + 1) := by
  funext c
  unfold uq cpF
  by_cases e : c = b + k
  · subst e; rw [if_pos rfl, if_pos (by omega)]; congr 1; omega
  · rw [if_neg e]
    by_cases e2 : b ≤ c ∧ c < b + k
    · rw [if_pos e2, if_pos (by omega)]
    · rw [if_neg e2, if_neg (by omega)]
/-- places of one run have one owner -/
theorem own_same {g : Int → Int} (h : wf g) {q : Int} (q0 : 0 ≤ q) : ∀ k : Nat, q + k < g 0 → runF g q = runF g (q + k) → g (38 + q) = g (38 + (q + k)) := by
  intro k
  induction k with
  | zero => intro _ _; rw [show q + ((0 : Nat) : Int) = q by omega]
  | succ k ih =>
    intro h1 h2
    have m1 := runF_mono g (p := q) (q := q + k) q0 (by omega)
    have m2 := runF_mono g (p := q + k) (q := q + ((k + 1 : Nat) : Int)) (by omega) (by omega)
    have e1 : runF g q = runF g (q + k) := by omega
    have e2 : runF g (q + k) = runF g (q + ((k + 1 : Nat) : Int)) := by omega
    rw [ih (by omega) e1]
    have hs := runF_s g (q + k).toNat
    rw [show (((q + k).toNat + 1 : Nat) : Int) = q + ((k + 1 : Nat) : Int) by omega, show (((q + k).toNat : Nat) : Int) = q + k by omega] at hs
    have hb : (g 5).toNat.testBit ((q + k).toNat + 1) = false := by
      cases hb : (g 5).toNat.testBit ((q + k).toNat + 1) with
      | false => rfl
      | true => rw [hb] at hs; simp only [if_true] at hs; omega
    have h9 := h.2.2.2.2.2.2.2.2 (q + ((k + 1 : Nat) : Int)) (by omega) h1 (by rw [show (q + ((k + 1 : Nat) : Int)).toNat = (q + k).toNat + 1 by omega]; exact hb)
    rw [h9, show q + ((k + 1 : Nat) : Int) - 1 = q + k by omega]
theorem cn_xor (c p : Nat) (hb : c.testBit p = true) : ∀ n : Nat, cn (c ^^^ 2 ^ p) n = if p < n then cn c n - 1 else cn c n := by
  intro n
  induction n with
  | zero => rfl
  | succ n ih =>
    rw [cn_s, cn_s, ih, tb_xor]
    rcases Nat.lt_trichotomy p n with h | h | h
    · have hd : decide (p = n) = false := decide_eq_false (by omega)
      rw [hd, Bool.xor_false, if_pos h, if_pos (show p < n + 1 by omega)]
      have h1 : 1 ≤ cn c n := by
        have h2 := cn_mono c (m := p + 1) (n := n) (by omega)
        rw [cn_s, hb] at h2
        simp only [if_true] at h2
        omega
      omega
    · subst h
      have hd : decide (p = p) = true := decide_eq_true rfl
      rw [hd, hb, if_neg (show ¬ p < p by omega), if_pos (show p < p + 1 by omega)]
      simp
    · have hd : decide (p = n) = false := decide_eq_false (by omega)
      rw [hd, Bool.xor_false, if_neg (show ¬ p < n by omega), if_neg (show ¬ p < n + 1 by omega)]
theorem runF_unc {g : Int → Int} {p q : Int} (p0 : 0 ≤ p) (q0 : 0 ≤ q) (hb : (g 5).toNat.testBit p.toNat = true) : runF (uncF g p) q = if p ≤ q then runF g q - 1 else runF g q := by
  have h1 := cn_xor (g 5).toNat p.toNat hb (q.toNat + 1)
  have e5 : (uncF g p 5).toNat = (g 5).toNat ^^^ 2 ^ p.toNat := by rw [uncF, uq_eq]; rfl
  unfold runF
  rw [e5, h1]
  by_cases h : p ≤ q
  · rw [if_pos h, if_pos (by omega)]
    have h2 := cn_mono (g 5).toNat (m := p.toNat + 1) (n := q.toNat + 1) (by omega)
    rw [cn_s (g 5).toNat p.toNat, hb] at h2
    simp only [if_true] at h2
    omega
  · rw [if_neg h, if_neg (by omega)]
/-- the reference's way to take a cut away: places from p to k are given -/
def unP (g : Int → Int) (p : Int) (k : Nat) : Int → Int := fun c => if 38 + p ≤ c ∧ c < 38 + k ∧ runF g (c - 38) = runF g p then g (38 + (p - 1)) else g c
theorem unP_0 (g : Int → Int) {p : Int} {k : Nat} (h : (k : Int) = p) : unP g p k = g := by
  funext c; unfold unP; rw [if_neg (by omega)]
theorem unP_t (g : Int → Int) {p : Int} {k : Nat} (hk : p ≤ k) (h : runF g k = runF g p) : uq (unP g p k) (38 + k) (g (38 + (p - 1))) = unP g p (k + 1) := by
  funext c
  unfold uq unP
  by_cases e : c = 38 + k
  · subst e; rw [if_pos rfl, if_pos ⟨by omega, by omega, by rw [show 38 + (k : Int) - 38 = k by omega]; exact h⟩]
  · rw [if_neg e]
    by_cases e2 : 38 + p ≤ c ∧ c < 38 + k ∧ runF g (c - 38) = runF g p
    · rw [if_pos e2, if_pos ⟨e2.1, by omega, e2.2.2⟩]
    · rw [if_neg e2, if_neg (fun z => e2 ⟨z.1, by omega, z.2.2⟩)]
theorem unP_f (g : Int → Int) {p : Int} {k : Nat} (h : ¬ runF g k = runF g p) : unP g p k = unP g p (k + 1) := by
  funext c
  unfold unP
  by_cases e2 : 38 + p ≤ c ∧ c < 38 + k ∧ runF g (c - 38) = runF g p
  · rw [if_pos e2, if_pos ⟨e2.1, by omega, e2.2.2⟩]
  · rw [if_neg e2, if_neg (fun z => e2 ⟨z.1, by
      by_cases e : c = 38 + k
      · subst e; exact absurd (by have := z.2.2; rw [show 38 + (k : Int) - 38 = k by omega] at this; exact this) h
      · omega, z.2.2⟩)]
theorem unP_n {g : Int → Int} (h : wf g) {p : Int} (p0 : 1 ≤ p) (p1 : p < g 0) (hb : (g 5).toNat.testBit p.toNat = true) {k : Nat} (hk : (k : Int) = g 0) : uq (unP g p k) 5 (((g 5).toNat ^^^ 2 ^ p.toNat : Nat) : Int) = cutOffF g p := by
  have hc : cutOffF g p = giveF (uncF g p) (runF (uncF g p) p) (g (38 + (p - 1))) := by unfold cutOffF; rw [hb]; rfl
  rw [hc]
  have f : ∀ c : Int, c ≠ 5 → uncF g p c = g c := fun c hc => uq_ne _ _ hc
  funext c
  by_cases e5 : c = 5
  · subst e5; rw [uq_eq, giveF_lo _ _ _ (by decide), uncF, uq_eq]
  · rw [uq_ne _ _ e5]
    by_cases e : 38 ≤ c
    · obtain ⟨q, rfl⟩ : ∃ q, c = 38 + q := ⟨c - 38, by omega⟩
      have q0 : 0 ≤ q := by omega
      rw [giveF_o _ _ _ q0, f 0 (by decide), f _ e5, runF_unc (by omega) q0 hb, runF_unc (by omega) (by omega) hb, if_pos (Int.le_refl p)]
      unfold unP
      rw [show 38 + q - 38 = q by omega]
      by_cases hq : p ≤ q
      · rw [if_pos hq]
        by_cases hr : q < g 0 ∧ runF g q = runF g p
        · rw [if_pos ⟨by omega, by omega, hr.2⟩, if_pos ⟨hr.1, by omega⟩]
        · rw [if_neg (fun z => hr ⟨by omega, z.2.2⟩), if_neg (fun z => hr ⟨z.1, by omega⟩)]
      · rw [if_neg hq, if_neg (show ¬ (38 + p ≤ 38 + q ∧ 38 + q < 38 + (k : Int) ∧ runF g q = runF g p) by omega)]
        by_cases hr : q < g 0 ∧ runF g q = runF g p - 1
        · rw [if_pos hr]
          have hs := runF_s g (p - 1).toNat
          rw [show (((p - 1).toNat + 1 : Nat) : Int) = p by omega, show (((p - 1).toNat : Nat) : Int) = p - 1 by omega, show (p - 1).toNat + 1 = p.toNat by omega, hb] at hs
          simp only [if_true] at hs
          have h3 := own_same h q0 (p - 1 - q).toNat (by omega) (by rw [show q + (((p - 1 - q).toNat : Nat) : Int) = p - 1 by omega]; omega)
          rw [h3, show q + (((p - 1 - q).toNat : Nat) : Int) = p - 1 by omega]
        · rw [if_neg hr]
    · rw [giveF_lo _ _ _ (by omega), f c e5]
      unfold unP
      rw [if_neg (by omega)]
def mwr (g : Int → Int) : Int → Int := fun c => if 0 ≤ c ∧ c < 54 then g c else 0
theorem mw_set (S : SS) (n : Nat) (g : Int → Int) : mw (us S n g) n = mwr g := by
  funext c
  unfold mw mwr
  rw [us_eq]
theorem mwr_id (S : SS) (n : Nat) : mwr (S n) = mw S n := rfl
theorem mwr_uq (g : Int → Int) {c x : Int} (h0 : 0 ≤ c) (h1 : c < 54) : mwr (uq g c x) = uq (mwr g) c x := by
  funext b
  unfold mwr uq
  by_cases e : b = c
  · subst e; rw [if_pos ⟨h0, h1⟩, if_pos rfl, if_pos rfl]
  · rw [if_neg e, if_neg e]
theorem uq_self (g : Int → Int) (c : Int) : uq g c (g c) = g := by
  funext b
  unfold uq
  by_cases e : b = c
  · rw [if_pos e, e]
  · rw [if_neg e]
/-- a take of the reference's: what is refused is counted -/
def takeM (g : Int → Int) (r : Int) : Int → Int := if whyF g r = 0 then takeF g r else uq g 3 (g 3 + 1)
