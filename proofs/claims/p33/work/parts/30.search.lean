/-! WAYS TO CUT: so many rising places, gone through in the order of their digits -/
def ahE (g : Int → Int) (k p : Int) : Int := if g (6 + jatF g p) = k then valF g (jatF g p) else 0
/-- what the places ahead of one have of a kind -/
def ahF (g : Int → Int) (k : Int) (n : Nat) : Int := sm (ahE g k) n
def lay (g D : Int → Int) : Prop := ∀ k : Int, 0 ≤ k → k < 4 → ∀ p : Nat, (p : Int) ≤ g 0 → D (17 * k + p) = ahF g k p
def toW (m c : Int) (t : Int → Int) (n : Int) : Int := if n < c then t n else m
def frW (m c : Int) (t : Int → Int) (n : Int) : Int := if n ≤ 0 then 0 else toW m c t (n - 1)
def seW (g : Int → Int) (k c : Int) (t : Int → Int) (n : Int) : Int := ahF g k (toW (g 0) c t n).toNat - ahF g k (frW (g 0) c t n).toNat
/-- by how much the first sister has more, of the first n runs -/
def byW (g : Int → Int) (k c : Int) (t : Int → Int) : Nat → Int
  | 0 => 0
  | n + 1 => byW g k c t n + (if (n : Int) % 2 = 0 then seW g k c t n else -(seW g k c t n))
def gpE (g : Int → Int) (c : Int) (t : Int → Int) (k : Int) : Int := absI (byW g k c t (c.toNat + 1))
def gapW (g : Int → Int) (c : Int) (t : Int → Int) : Int := sm (gpE g c t) 4
def ways (m c : Int) (t : Int → Int) : Prop := ∀ i : Int, 0 ≤ i → i < c → (i + 1 ≤ t i ∧ t i ≤ m - c + i) ∧ (i + 1 < c → t i < t (i + 1))
def lexT (c : Int) (t u : Int → Int) : Prop := ∃ d : Int, 0 ≤ d ∧ d < c ∧ (∀ j : Int, 0 ≤ j → j < d → t j = u j) ∧ t d < u d
def agr (c : Int) (t u : Int → Int) : Prop := ∀ j : Int, 0 ≤ j → j < c → t j = u j
def lexL (g : Int → Int) (c : Int) (T : Int → Int) : Prop := ways (g 0) c T ∧ gapW g c T = 0 ∧ ∀ t : Int → Int, ways (g 0) c t → gapW g c t = 0 → ¬ lexT c t T
def isLe (g : Int → Int) (c x : Int) : Prop := (x = -1 ∧ ∀ t : Int → Int, ¬ ways (g 0) c t) ∨ (0 ≤ x ∧ (∃ t : Int → Int, ways (g 0) c t ∧ gapW g c t = x) ∧ ∀ t : Int → Int, ways (g 0) c t → x ≤ gapW g c t)
noncomputable def leW (g : Int → Int) (c : Int) : Int := Classical.epsilon (fun x => isLe g c x)
theorem isLe_u {g : Int → Int} {c x y : Int} (h1 : isLe g c x) (h2 : isLe g c y) : x = y := by
  rcases h1 with ⟨a, b⟩ | ⟨a, ⟨t, b, e⟩, d⟩
  · rcases h2 with ⟨a2, b2⟩ | ⟨a2, ⟨t2, b2, e2⟩, d2⟩
    · omega
    · exact absurd b2 (b t2)
  · rcases h2 with ⟨a2, b2⟩ | ⟨a2, ⟨t2, b2, e2⟩, d2⟩
    · exact absurd b (b2 t)
    · have := d t2 b2; have := d2 t b; omega
theorem leW_of {g : Int → Int} {c x : Int} (h : isLe g c x) : leW g c = x := isLe_u (Classical.epsilon_spec (p := fun x => isLe g c x) ⟨x, h⟩) h
theorem ahE_in {g : Int → Int} (h : wf g) (k : Int) {p : Int} (h0 : 0 ≤ p) (h1 : p < g 0) : 0 ≤ ahE g k p ∧ ahE g k p ≤ 9 := by
  have hj := jatF_in h h0 h1
  have hk := h.2.2.2.2.2.2.1 _ hj.1 hj.2
  unfold ahE valF
  split
  · split <;> omega
  · omega
theorem ahF_in {g : Int → Int} (h : wf g) (k : Int) (n : Nat) (hn : (n : Int) ≤ g 0) : 0 ≤ ahF g k n ∧ ahF g k n ≤ 9 * n := by
  induction n with
  | zero => exact ⟨Int.le_refl _, Int.le_refl _⟩
  | succ n ih =>
    have := ih (by omega)
    have h2 := ahE_in h k (p := (n : Int)) (by omega) (by omega)
    unfold ahF at *
    rw [sm_s]
    omega
theorem ahF_b {g : Int → Int} (h : wf g) (k : Int) (n : Nat) (hn : (n : Int) ≤ g 0) : 0 ≤ ahF g k n ∧ ahF g k n ≤ 144 := by
  have := ahF_in h k n hn
  have := h.1
  omega
theorem toW_in {g : Int → Int} (h : wf g) {c : Int} {t : Int → Int} (ht : ways (g 0) c t) {n : Int} (h0 : 0 ≤ n) : 0 ≤ toW (g 0) c t n ∧ toW (g 0) c t n ≤ g 0 := by
  have := h.1
  unfold toW
  split
  · next hh => have := (ht n h0 hh).1; omega
  · omega
theorem frW_in {g : Int → Int} (h : wf g) {c : Int} {t : Int → Int} (ht : ways (g 0) c t) {n : Int} : 0 ≤ frW (g 0) c t n ∧ frW (g 0) c t n ≤ g 0 := by
  have := h.1
  unfold frW
  split
  · omega
  · exact toW_in h ht (by omega)
theorem seW_in {g : Int → Int} (h : wf g) (k : Int) {c : Int} {t : Int → Int} (ht : ways (g 0) c t) {n : Int} (h0 : 0 ≤ n) (h1 : n ≤ c) : -144 ≤ seW g k c t n ∧ seW g k c t n ≤ 144 := by
  have h2 := toW_in h ht h0
  have h3 := frW_in h ht (n := n)
  have h4 := ahF_b h k (toW (g 0) c t n).toNat (by omega)
  have h5 := ahF_b h k (frW (g 0) c t n).toNat (by omega)
  unfold seW
  omega
theorem byW_in {g : Int → Int} (h : wf g) (k : Int) {c : Int} {t : Int → Int} (ht : ways (g 0) c t) (n : Nat) (h1 : (n : Int) ≤ c + 1) : -(144 * n) ≤ byW g k c t n ∧ byW g k c t n ≤ 144 * n := by
  induction n with
  | zero => exact ⟨Int.le_refl _, Int.le_refl _⟩
  | succ n ih =>
    have := ih (by omega)
    have := seW_in h k ht (n := (n : Int)) (by omega) (by omega)
    rw [byW]
    split <;> omega
theorem gapW_in {g : Int → Int} (h : wf g) {c : Int} {t : Int → Int} (ht : ways (g 0) c t) (c0 : 0 ≤ c) (c1 : c ≤ 6) (n : Nat) : 0 ≤ sm (gpE g c t) n ∧ sm (gpE g c t) n ≤ 1008 * n := by
  induction n with
  | zero => exact ⟨Int.le_refl _, Int.le_refl _⟩
  | succ n ih =>
    have h2 := byW_in h (n : Int) ht (c.toNat + 1) (by omega)
    rw [sm_s, gpE, absI]
    split <;> omega
theorem gapW_c {g : Int → Int} {c : Int} {t u : Int → Int} (c0 : 0 ≤ c) (h : agr c t u) : gapW g c t = gapW g c u := by
  have hs : ∀ (k : Int) (n : Nat), (n : Int) ≤ c + 1 → byW g k c t n = byW g k c u n := by
    intro k n
    induction n with
    | zero => intro _; rfl
    | succ n ih =>
      intro hn
      have e : seW g k c t n = seW g k c u n := by
        have e1 : toW (g 0) c t n = toW (g 0) c u n := by
          unfold toW; split
          · exact h _ (by omega) (by omega)
          · rfl
        have e2 : frW (g 0) c t n = frW (g 0) c u n := by
          unfold frW; split
          · rfl
          · unfold toW; split
            · exact h _ (by omega) (by omega)
            · rfl
        unfold seW; rw [e1, e2]
      rw [byW, byW, ih (by omega), e]
  have : gpE g c t = gpE g c u := by
    funext k
    unfold gpE; rw [hs k _ (by omega)]
  unfold gapW; rw [this]
/-- two ways agree, or differ first at a place -/
theorem dif (t u : Int → Int) (n : Nat) : agr n t u ∨ lexT n t u ∨ lexT n u t := by
  induction n with
  | zero => exact Or.inl (fun j h0 h1 => by omega)
  | succ n ih =>
    rcases ih with h | ⟨d, h0, h1, h2, h3⟩ | ⟨d, h0, h1, h2, h3⟩
    · rcases Int.lt_trichotomy (t n) (u n) with hh | hh | hh
      · exact Or.inr (Or.inl ⟨n, by omega, by omega, h, hh⟩)
      · refine Or.inl (fun j h0 h1 => ?_)
        by_cases hj : j = n
        · subst hj; exact hh
        · exact h j h0 (by omega)
      · exact Or.inr (Or.inr ⟨n, by omega, by omega, fun j h0 h1 => (h j h0 h1).symm, hh⟩)
    · exact Or.inr (Or.inl ⟨d, h0, by omega, h2, h3⟩)
    · exact Or.inr (Or.inr ⟨d, h0, by omega, h2, h3⟩)
theorem difC (t u : Int → Int) {c : Int} (c0 : 0 ≤ c) : agr c t u ∨ lexT c t u ∨ lexT c u t := by
  have := dif t u c.toNat
  rwa [show ((c.toNat : Nat) : Int) = c by omega] at this
/-! the first way, and the next -/
def fwT (t : Int → Int) (c : Nat) : Int → Int := fun b => if 0 ≤ b ∧ b < c then b + 1 else t b
theorem fwT_0 (t : Int → Int) : fwT t 0 = t := by funext b; exact if_neg (by omega)
theorem fwT_s (t : Int → Int) (c : Nat) : uq (fwT t c) c ((c : Int) + 1) = fwT t (c + 1) := by
  funext b
  by_cases h : b = c
  · subst h; rw [uq_eq, fwT, if_pos (by omega)]
  · rw [uq_ne _ _ h, fwT, fwT]
    by_cases h2 : 0 ≤ b ∧ b < c
    · rw [if_pos h2, if_pos (by omega)]
    · rw [if_neg h2, if_neg (by omega)]
theorem fwT_w {m : Int} {c : Nat} (t : Int → Int) (h : (c : Int) < m ∨ c = 0) : ways m c (fwT t c) := by
  intro i h0 h1
  rw [fwT, if_pos (by omega)]
  refine ⟨by omega, fun h2 => ?_⟩
  rw [fwT, if_pos (by omega)]; omega
theorem fwT_l {m : Int} {c : Nat} {t u : Int → Int} (h : ways m c u) : ¬ lexT c u (fwT t c) := by
  rintro ⟨d, h0, h1, h2, h3⟩
  rw [fwT, if_pos (by omega)] at h3
  have := (h d h0 h1).1
  omega
theorem ways_no {m c : Int} (h : ¬ (c < m ∨ c = 0)) (c0 : 0 ≤ c) (t : Int → Int) : ¬ ways m c t := fun hw => by
  have := (hw 0 (by omega) (by omega)).1
  omega
def nxI (m c : Int) (t : Int → Int) : Nat → Int
  | 0 => -1
  | n + 1 => if t n = m - c + n then nxI m c t n else n
def nxT (m c : Int) (t : Int → Int) : Int → Int := if nxI m c t c.toNat = -1 then t else fun b => if nxI m c t c.toNat ≤ b ∧ b < c then t (nxI m c t c.toNat) + 1 + (b - nxI m c t c.toNat) else t b
theorem nxI_s (m c : Int) (t : Int → Int) (n : Nat) : (-1 ≤ nxI m c t n ∧ nxI m c t n < n) ∧ (0 ≤ nxI m c t n → t (nxI m c t n) ≠ m - c + nxI m c t n) ∧ ∀ j : Int, nxI m c t n < j → j < n → t j = m - c + j := by
  induction n with
  | zero => exact ⟨⟨(by decide : (-1 : Int) ≤ -1), (by decide : (-1 : Int) < 0)⟩, fun h => absurd h (by decide : ¬ (0 : Int) ≤ -1), fun j h0 h1 => by have : (-1 : Int) < j := h0; omega⟩
  | succ n ih =>
    rw [nxI]
    split
    · next hh =>
      refine ⟨⟨ih.1.1, by omega⟩, ih.2.1, fun j h0 h1 => ?_⟩
      by_cases hj : j = n
      · subst hj; exact hh
      · exact ih.2.2 j h0 (by omega)
    · next hh => exact ⟨⟨by omega, by omega⟩, fun _ => hh, fun j h0 h1 => by omega⟩
theorem nxT_no {m c : Int} {t : Int → Int} (c0 : 0 ≤ c) (h : nxI m c t c.toNat = -1) {u : Int → Int} (hu : ways m c u) : ¬ lexT c t u := by
  rintro ⟨d, h0, h1, h2, h3⟩
  have h4 := (nxI_s m c t c.toNat).2.2 d (by omega) (by omega)
  have := (hu d h0 h1).1
  omega
theorem nxT_e {m c : Int} {t : Int → Int} {i : Int} (hi : nxI m c t c.toNat = i) (h0 : 0 ≤ i) : nxT m c t = fun b => if i ≤ b ∧ b < c then t i + 1 + (b - i) else t b := by
  subst hi; exact if_neg (by omega)
theorem ways_up {m c : Int} {t : Int → Int} (h : ways m c t) {i : Int} (h0 : 0 ≤ i) (k : Nat) (h1 : i + k < c) : t i + k ≤ t (i + k) := by
  induction k with
  | zero => simp
  | succ k ih =>
    have h2 := ih (by omega)
    have h3 := (h (i + k) (by omega) (by omega)).2 (by omega)
    rw [show i + ((k + 1 : Nat) : Int) = i + k + 1 by omega]
    omega
theorem nxT_y {m c : Int} {t : Int → Int} (c0 : 0 ≤ c) (hw : ways m c t) (h : 0 ≤ nxI m c t c.toNat) : ways m c (nxT m c t) ∧ lexT c t (nxT m c t) ∧ ∀ u : Int → Int, ways m c u → lexT c u (nxT m c t) → lexT c u t ∨ agr c u t := by
  obtain ⟨hs1, hs2, hs3⟩ := nxI_s m c t c.toNat
  obtain ⟨i, hi⟩ : ∃ i : Int, nxI m c t c.toNat = i := ⟨_, rfl⟩
  have e := nxT_e hi (by omega)
  rw [hi] at hs1 hs2 hs3 h
  have hti := (hw i h (by omega)).1
  have hti2 := hs2 h
  rw [e]
  refine ⟨fun j j0 j1 => ?_, ⟨i, h, by omega, fun j j0 j1 => ?_, ?_⟩, fun u hu hl => ?_⟩
  · by_cases hj : i ≤ j
    · show ((j + 1 ≤ if i ≤ j ∧ j < c then t i + 1 + (j - i) else t j) ∧ (if i ≤ j ∧ j < c then t i + 1 + (j - i) else t j) ≤ m - c + j) ∧ (j + 1 < c → (if i ≤ j ∧ j < c then t i + 1 + (j - i) else t j) < if i ≤ j + 1 ∧ j + 1 < c then t i + 1 + (j + 1 - i) else t (j + 1))
      rw [if_pos (by omega)]
      refine ⟨by omega, fun j2 => ?_⟩
      rw [if_pos (by omega)]; omega
    · show ((j + 1 ≤ if i ≤ j ∧ j < c then t i + 1 + (j - i) else t j) ∧ (if i ≤ j ∧ j < c then t i + 1 + (j - i) else t j) ≤ m - c + j) ∧ (j + 1 < c → (if i ≤ j ∧ j < c then t i + 1 + (j - i) else t j) < if i ≤ j + 1 ∧ j + 1 < c then t i + 1 + (j + 1 - i) else t (j + 1))
      rw [if_neg (by omega)]
      have h5 := hw j j0 j1
      refine ⟨h5.1, fun j2 => ?_⟩
      have h6 := h5.2 j2
      by_cases hj2 : i ≤ j + 1
      · rw [if_pos (by omega)]
        have : j + 1 = i := by omega
        rw [this] at h6
        omega
      · rw [if_neg (by omega)]; exact h6
  · show t j = if i ≤ j ∧ j < c then t i + 1 + (j - i) else t j
    rw [if_neg (by omega)]
  · show t i < if i ≤ i ∧ i < c then t i + 1 + (i - i) else t i
    rw [if_pos (by omega)]; omega
  · obtain ⟨d, d0, d1, d2, d3⟩ := hl
    have d2' : ∀ j : Int, 0 ≤ j → j < d → u j = if i ≤ j ∧ j < c then t i + 1 + (j - i) else t j := d2
    have d3' : u d < if i ≤ d ∧ d < c then t i + 1 + (d - i) else t d := d3
    rcases Int.lt_trichotomy d i with hd | hd | hd
    · rw [if_neg (by omega)] at d3'
      refine Or.inl ⟨d, d0, d1, fun j j0 j1 => ?_, d3'⟩
      rw [d2' j j0 j1, if_neg (by omega)]
    · subst hd
      rw [if_pos (by omega)] at d3'
      have hlo : ∀ j : Int, 0 ≤ j → j < d → u j = t j := fun j j0 j1 => by rw [d2' j j0 j1, if_neg (by omega)]
      by_cases hq : u d = t d
      · rcases difC u t c0 with hh | hh | ⟨b, b0, b1, b2, b3⟩
        · exact Or.inr hh
        · exact Or.inl hh
        · exfalso
          rcases Int.lt_trichotomy b d with h7 | h7 | h7
          · have := hlo b b0 h7; omega
          · subst h7; omega
          · have h8 := hs3 b h7 (by omega)
            have := (hu b b0 b1).1
            omega
      · exact Or.inl ⟨d, d0, d1, hlo, by omega⟩
    · exfalso
      rw [if_pos (by omega)] at d3'
      have h7 := d2' i h (by omega)
      rw [if_pos (by omega)] at h7
      have h8 := ways_up hu h (d - i).toNat (by omega)
      rw [show i + ((d - i).toNat : Int) = d by omega] at h8
      omega
/-! a way's number, which rises -/
def encW (t : Int → Int) : Nat → Int
  | 0 => 0
  | n + 1 => 17 * encW t n + t n
theorem encW_l {t u : Int → Int} {d : Nat} (h2 : ∀ j : Int, 0 ≤ j → j < d → t j = u j) (h3 : t d < u d) (n : Nat) (hd : d < n) (ht : ∀ j : Int, 0 ≤ j → j < n → 0 ≤ t j ∧ t j ≤ 16) (hu : ∀ j : Int, 0 ≤ j → j < n → 0 ≤ u j ∧ u j ≤ 16) : encW t n < encW u n := by
  have hlo : ∀ k : Nat, k ≤ d → encW t k = encW u k := by
    intro k
    induction k with
    | zero => intro _; rfl
    | succ k ih => intro hk; rw [encW, encW, ih (by omega), h2 k (by omega) (by omega)]
  induction n with
  | zero => omega
  | succ n ih =>
    rw [encW, encW]
    by_cases hn : n = d
    · subst hn; rw [hlo n (Nat.le_refl _)]; omega
    · have h4 := ih (by omega) (fun j j0 j1 => ht j j0 (by omega)) (fun j j0 j1 => hu j j0 (by omega))
      have h5 := ht n (by omega) (by omega)
      have h6 := hu n (by omega) (by omega)
      omega
theorem encW_b {t : Int → Int} (n : Nat) (hn : n ≤ 6) (ht : ∀ j : Int, 0 ≤ j → j < n → 0 ≤ t j ∧ t j ≤ 16) : 0 ≤ encW t n ∧ encW t n < 24137569 := by
  have key : ∀ (n : Nat) (b : Int), (∀ j : Int, 0 ≤ j → j < n → 0 ≤ t j ∧ t j ≤ 16) → 0 ≤ encW t n ∧ encW t n < 17 ^ n := by
    intro n b h
    induction n with
    | zero => exact ⟨(by decide : (0 : Int) ≤ 0), (by decide : (0 : Int) < 17 ^ 0)⟩
    | succ n ih =>
      have := ih (fun j j0 j1 => h j j0 (by omega))
      have := h n (by omega) (by omega)
      rw [encW, Int.pow_succ]
      omega
  have h1 := key n 0 ht
  have h2 : (17 : Int) ^ n ≤ 24137569 := by
    rcases (show n = 0 ∨ n = 1 ∨ n = 2 ∨ n = 3 ∨ n = 4 ∨ n = 5 ∨ n = 6 by omega) with h | h | h | h | h | h | h <;> subst h <;> decide
  omega
theorem ways_in {m c : Int} {t : Int → Int} (hm : m ≤ 16) (h : ways m c t) : ∀ j : Int, 0 ≤ j → j < c → 0 ≤ t j ∧ t j ≤ 16 := fun j j0 j1 => by
  have := (h j j0 j1).1; omega
theorem encW_n {m c : Int} {t : Int → Int} (hm : m ≤ 16) (c0 : 0 ≤ c) (hw : ways m c t) (h : 0 ≤ nxI m c t c.toNat) : encW t c.toNat < encW (nxT m c t) c.toNat := by
  obtain ⟨h1, ⟨d, d0, d1, d2, d3⟩, _⟩ := nxT_y c0 hw h
  exact encW_l (d := d.toNat) (fun j j0 j1 => d2 j j0 (by omega)) (by rw [show ((d.toNat : Nat) : Int) = d by omega]; exact d3) c.toNat (by omega) (fun j j0 j1 => ways_in hm hw j j0 (by omega)) (fun j j0 j1 => ways_in hm h1 j j0 (by omega))
