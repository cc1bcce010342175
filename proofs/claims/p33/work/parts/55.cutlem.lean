/-! CUTS, one behind another: the last one ahead of a run, what the first sister has of the first runs -/
def lst (t : Int → Int) (r : Nat) : Int := if r = 0 then 0 else t ((r : Int) - 1)
theorem lst_0 (t : Int → Int) : lst t 0 = 0 := rfl
theorem lst_s (t : Int → Int) (r : Nat) : lst t (r + 1) = t r := by
  rw [lst, if_neg (by omega), show (((r + 1 : Nat) : Int) - 1) = r by omega]
def preW (n : Int) (r : Nat) (t : Int → Int) : Prop := ∀ i : Nat, i < r → lst t i < t i ∧ t i < n
def agrN (r : Nat) (u t : Int → Int) : Prop := ∀ i : Nat, i < r → u i = t i
theorem agrN.rf {r : Nat} {t : Int → Int} : agrN r t t := fun _ _ => rfl
theorem agrN.sy {r : Nat} {u t : Int → Int} (h : agrN r u t) : agrN r t u := fun i hi => (h i hi).symm
theorem agrN.le {r m : Nat} {u t : Int → Int} (h : agrN r u t) (hm : m ≤ r) : agrN m u t := fun i hi => h i (by omega)
theorem lst_c {r : Nat} {u t : Int → Int} (h : agrN r u t) : lst u r = lst t r := by
  cases r with
  | zero => rfl
  | succ r => rw [lst_s, lst_s]; exact h r (by omega)
theorem preW_c {n : Int} {r : Nat} {u t : Int → Int} (h : agrN r u t) (hp : preW n r t) : preW n r u := fun i hi => by
  rw [h i hi, lst_c (h.le (Nat.le_of_lt hi))]
  exact hp i hi
theorem preW.le {n : Int} {r m : Nat} {t : Int → Int} (h : preW n r t) (hm : m ≤ r) : preW n m t := fun i hi => h i (by omega)
theorem preW_lst {n : Int} {r : Nat} {t : Int → Int} (h : preW n r t) (hn : 0 ≤ n) : 0 ≤ lst t r ∧ lst t r ≤ n := by
  induction r with
  | zero => exact ⟨Int.le_refl _, hn⟩
  | succ r ih =>
    have h1 := ih (h.le (by omega))
    have h2 := h r (by omega)
    rw [lst_s]
    omega
theorem preW_at {n : Int} {r : Nat} {t : Int → Int} (h : preW n r t) (hn : 0 ≤ n) {i : Nat} (hi : i < r) : 1 ≤ t i ∧ t i < n := by
  have h1 := preW_lst (h.le (Nat.le_of_lt hi)) hn
  have h2 := h i hi
  omega
def fsP (g : Int → Int) (k : Int) (t : Int → Int) : Nat → Int
  | 0 => 0
  | m + 1 => fsP g k t m + (if (m : Int) % 2 = 0 then ahF g k (t m).toNat - ahF g k (lst t m).toNat else 0)
def fsE (g : Int → Int) (c : Nat) (t : Int → Int) : Int → Int := wrF g (fun k => fsP g k t c) c (lst t c) (g 0)
theorem fsP_c {g : Int → Int} (k : Int) {u t : Int → Int} {r : Nat} (h : agrN r u t) : fsP g k u r = fsP g k t r := by
  induction r with
  | zero => rfl
  | succ r ih => rw [fsP, fsP, ih (h.le (by omega)), h r (by omega), lst_c (h.le (Nat.le_succ r))]
theorem fsE_c {g : Int → Int} {u t : Int → Int} {c : Nat} (h : agrN c u t) : fsE g c u = fsE g c t := by
  unfold fsE
  rw [lst_c h, funext (fun k => fsP_c k h)]
/-- one cut more -/
theorem fsP_up (g : Int → Int) (t : Int → Int) (r : Nat) (p : Int) : (fun k => fsP g k (uq t r p) (r + 1)) = wrF g (fun k => fsP g k t r) r (lst t r) p := by
  have ha : agrN r (uq t r p) t := fun i hi => uq_ne _ _ (by omega)
  funext k
  rw [fsP, fsP_c k ha, lst_c ha, uq_eq, wrF]
  by_cases h : (r : Int) % 2 = 0
  · rw [if_pos h, if_pos h]; omega
  · rw [if_neg h, if_neg h]; omega
theorem ahF_mono {g : Int → Int} (hw : wf g) (k : Int) {p q : Nat} (h : p ≤ q) (hq : (q : Int) ≤ g 0) : ahF g k p ≤ ahF g k q := by
  induction q with
  | zero => rw [Nat.le_zero.mp h]; exact Int.le_refl _
  | succ q ih =>
    by_cases e : p = q + 1
    · rw [e]; exact Int.le_refl _
    · have h1 := ih (by omega) (by omega)
      have h2 := ahE_in hw k (p := (q : Int)) (by omega) (by omega)
      rw [ahF_s]
      omega
theorem fsP_s {g : Int → Int} (hw : wf g) (k : Int) {t : Int → Int} {r : Nat} (h : preW (g 0) (r + 1) t) : fsP g k t r ≤ fsP g k t (r + 1) ∧ ahF g k (lst t r).toNat - fsP g k t r ≤ ahF g k (lst t (r + 1)).toNat - fsP g k t (r + 1) := by
  have hn := hw.1
  have h1 := preW_lst (h.le (Nat.le_succ r)) hn.1
  have h2 := h r (by omega)
  have h3 := ahF_mono hw k (p := (lst t r).toNat) (q := (t r).toNat) (by omega) (by omega)
  rw [fsP, lst_s]
  split <;> omega
theorem fsP_m {g : Int → Int} (hw : wf g) (k : Int) {t : Int → Int} {m r : Nat} (hm : m ≤ r) (h : preW (g 0) r t) : fsP g k t m ≤ fsP g k t r ∧ ahF g k (lst t m).toNat - fsP g k t m ≤ ahF g k (lst t r).toNat - fsP g k t r := by
  induction r with
  | zero => rw [Nat.le_zero.mp hm]; exact ⟨Int.le_refl _, Int.le_refl _⟩
  | succ r ih =>
    by_cases e : m = r + 1
    · rw [e]; exact ⟨Int.le_refl _, Int.le_refl _⟩
    · have h1 := ih (by omega) (h.le (Nat.le_succ r))
      have h2 := fsP_s hw k h
      omega
theorem fsE_m {g : Int → Int} (hw : wf g) (k : Int) {t : Int → Int} {c : Nat} (h : preW (g 0) c t) : fsP g k t c ≤ fsE g c t k ∧ ahF g k (lst t c).toNat - fsP g k t c ≤ ahF g k (g 0).toNat - fsE g c t k := by
  have hn := hw.1
  have h1 := preW_lst h hn.1
  have h3 := ahF_mono hw k (p := (lst t c).toNat) (q := (g 0).toNat) (by omega) (by omega)
  unfold fsE wrF
  simp only []
  split <;> omega
theorem fsP_b {g : Int → Int} (hw : wf g) (k : Int) {t : Int → Int} {r : Nat} (h : preW (g 0) r t) : 0 ≤ fsP g k t r ∧ fsP g k t r ≤ ahF g k (lst t r).toNat := by
  have h1 := fsP_m hw k (Nat.zero_le r) h
  rw [show fsP g k t 0 = 0 from rfl, lst_0] at h1
  rw [show ahF g k (0 : Int).toNat = 0 from rfl] at h1
  omega
theorem fsP_R {g : Int → Int} (hw : wf g) {t : Int → Int} {r : Nat} (h : preW (g 0) r t) : pkR (fun k => fsP g k t r) 32768 := fun k _ _ => by
  have h1 := fsP_b hw k h
  have h2 := preW_lst h hw.1.1
  have h3 := ahF_b hw k (lst t r).toNat (by omega)
  simp only []
  omega
theorem fsE_b {g : Int → Int} (hw : wf g) (k : Int) {t : Int → Int} {c : Nat} (h : preW (g 0) c t) : 0 ≤ fsE g c t k ∧ fsE g c t k ≤ ahF g k (g 0).toNat := by
  have h1 := fsP_b hw k h
  have h2 := fsE_m hw k h
  omega
theorem fsE_R {g : Int → Int} (hw : wf g) {t : Int → Int} {c : Nat} (h : preW (g 0) c t) : pkR (fsE g c t) 32768 := fun k _ _ => by
  have h1 := fsE_b hw k h
  have h3 := ahF_b hw k (g 0).toNat (by have := hw.1; omega)
  omega
/-- the ways of the reference are these -/
theorem ways_pre {n : Int} {c : Nat} {t : Int → Int} : ways n c t ↔ preW n c t := by
  constructor
  · intro h i hi
    have h1 := h i (by omega) (by omega)
    refine ⟨?_, by omega⟩
    cases i with
    | zero => rw [lst_0]; omega
    | succ i =>
      rw [lst_s]
      have h2 := (h i (by omega) (by omega)).2 (by omega)
      rw [show ((i : Int) + 1) = ((i + 1 : Nat) : Int) by omega] at h2
      exact h2
  · intro h
    have lo : ∀ i : Nat, i < c → (i : Int) + 1 ≤ t i := by
      intro i
      induction i with
      | zero => intro hi; have := h 0 hi; rw [lst_0] at this; omega
      | succ i ih =>
        intro hi
        have h1 := ih (by omega)
        have h2 := h (i + 1) hi
        rw [lst_s] at h2
        omega
    have hi' : ∀ j i : Nat, i + j + 1 = c → t i ≤ n - c + i := by
      intro j
      induction j with
      | zero => intro i hi; have := h i (by omega); omega
      | succ j ih =>
        intro i hi
        have h1 := ih (i + 1) (by omega)
        have h2 := h (i + 1) (by omega)
        rw [lst_s] at h2
        omega
    intro i h0 h1
    obtain ⟨m, rfl⟩ := Int.eq_ofNat_of_zero_le h0
    refine ⟨⟨lo m (by omega), hi' (c - m - 1) m (by omega)⟩, fun h2 => ?_⟩
    have h3 := h (m + 1) (by omega)
    rw [lst_s] at h3
    rw [show ((m : Int) + 1) = ((m + 1 : Nat) : Int) by omega]
    exact h3.1
theorem byW_fs (g : Int → Int) (k : Int) (c : Nat) (t : Int → Int) : ∀ m : Nat, m ≤ c → byW g k c t m = 2 * fsP g k t m - ahF g k (lst t m).toNat := by
  intro m
  induction m with
  | zero => intro _; rfl
  | succ m ih =>
    intro hm
    have e1 : toW (g 0) c t m = t m := if_pos (by omega)
    have e2 : frW (g 0) c t m = lst t m := by
      cases m with
      | zero => rfl
      | succ m =>
        rw [frW, if_neg (by omega), toW, if_pos (by omega), lst_s]
        congr 1
        omega
    rw [byW, ih (by omega), seW, e1, e2, fsP, lst_s]
    split <;> omega
theorem byW_E (g : Int → Int) (k : Int) (c : Nat) (t : Int → Int) : byW g k c t (c + 1) = 2 * fsE g c t k - ahF g k (g 0).toNat := by
  have e1 : toW (g 0) c t c = g 0 := if_neg (by omega)
  have e2 : frW (g 0) c t c = lst t c := by
    cases c with
    | zero => rfl
    | succ c =>
      rw [frW, if_neg (by omega), toW, if_pos (by omega), lst_s]
      congr 1
      omega
  rw [byW, byW_fs g k c t c (Nat.le_refl _), seW, e1, e2, fsE, wrF]
  split <;> omega
theorem gapW_S (g : Int → Int) (c : Nat) (t : Int → Int) : gapW g c t = gapS g (fsE g c t) := by
  unfold gapW gapS
  congr 1
  funext k
  unfold gpE gpS absI
  rw [show ((c : Int).toNat + 1) = c + 1 by omega, byW_E]
  split <;> split <;> omega
theorem gapS_0 {g s : Int → Int} : gapS g s = 0 ↔ ∀ k : Int, 0 ≤ k → k < 4 → 2 * s k = ahF g k (g 0).toNat := by
  have e : gapS g s = gpS g s 0 + gpS g s 1 + gpS g s 2 + gpS g s 3 := by
    show 0 + gpS g s 0 + gpS g s 1 + gpS g s 2 + gpS g s 3 = _
    omega
  have hp : ∀ k : Int, 0 ≤ gpS g s k ∧ (gpS g s k = 0 ↔ 2 * s k = ahF g k (g 0).toNat) := fun k => by
    unfold gpS absI
    split <;> omega
  have a0 := hp 0
  have a1 := hp 1
  have a2 := hp 2
  have a3 := hp 3
  rw [e]
  constructor
  · intro h
    exact k4 (a0.2.mp (by omega)) (a1.2.mp (by omega)) (a2.2.mp (by omega)) (a3.2.mp (by omega))
  · intro h
    have b0 := a0.2.mpr (h 0 (by decide) (by decide))
    have b1 := a1.2.mpr (h 1 (by decide) (by decide))
    have b2 := a2.2.mpr (h 2 (by decide) (by decide))
    have b3 := a3.2.mpr (h 3 (by decide) (by decide))
    omega
/-- a way that divides -/
def goodW (g : Int → Int) (c : Nat) (t : Int → Int) : Prop := preW (g 0) c t ∧ gapS g (fsE g c t) = 0
theorem goodW_c {g : Int → Int} {c : Nat} {u t : Int → Int} (h : agrN c u t) (hg : goodW g c t) : goodW g c u := ⟨preW_c h hg.1, by rw [fsE_c h]; exact hg.2⟩
theorem goodW_iff {g : Int → Int} {c : Nat} {t : Int → Int} : goodW g c t ↔ ways (g 0) c t ∧ gapW g c t = 0 := by rw [goodW, ways_pre, gapW_S]
/-- the halves: what is had when it is fair -/
theorem half_iff {g : Int → Int} (hw : wf g) (ho : oddF g = 0) {s : Int → Int} (hs : pkR s 32768) : pkF s = pkF (fun k => ahF g k (g 0).toNat) / 2 ↔ gapS g s = 0 := by
  have hn := hw.1
  have he := oddF_all ho
  have hT := ahF_R hw (g 0).toNat (by omega)
  have hH : pkR (fun k => ahF g k (g 0).toNat / 2) 65536 := fun k a b => by
    have := ahF_b hw k (g 0).toNat (by omega)
    simp only []
    omega
  rw [pz_half hT he, pz_inj (hs.up (by decide)) hH, gapS_0]
  constructor
  · intro h k a b
    have := h k a b
    have := he k a b
    omega
  · intro h k a b
    have := h k a b
    omega
theorem half_R {g : Int → Int} (hw : wf g) (ho : oddF g = 0) : pkF (fun k => ahF g k (g 0).toNat) / 2 = pkF (fun k => ahF g k (g 0).toNat / 2) ∧ pkR (fun k => ahF g k (g 0).toNat / 2) 32768 := by
  have hn := hw.1
  refine ⟨pz_half (ahF_R hw (g 0).toNat (by omega)) (oddF_all ho), fun k a b => ?_⟩
  have := ahF_b hw k (g 0).toNat (by omega)
  simp only []
  omega
theorem ovF_1 {h f : Int → Int} (e : ovF h f ≠ 0) : ∃ k : Int, (0 ≤ k ∧ k < 4) ∧ h k < f k := by
  unfold ovF at e
  split at e
  · omega
  · next hh =>
    by_cases h0 : f 0 ≤ h 0
    · by_cases h1 : f 1 ≤ h 1
      · by_cases h2 : f 2 ≤ h 2
        · exact ⟨3, ⟨by decide, by decide⟩, by omega⟩
        · exact ⟨2, ⟨by decide, by decide⟩, by omega⟩
      · exact ⟨1, ⟨by decide, by decide⟩, by omega⟩
    · exact ⟨0, ⟨by decide, by decide⟩, by omega⟩
/-- too much at one place is too much at all behind it -/
theorem cut_off {g : Int → Int} (hw : wf g) (ho : oddF g = 0) {c r : Nat} (hr : r < c) {t : Int → Int} (ht : preW (g 0) r t) {p : Int} (p0 : lst t r < p)
    (hov : ovF (fun k => ahF g k (g 0).toNat / 2) (wrF g (fun k => fsP g k t r) r (lst t r) p) ≠ 0 ∨ ovF (fun k => ahF g k (g 0).toNat / 2) (fun k => ahF g k p.toNat - wrF g (fun k => fsP g k t r) r (lst t r) p k) ≠ 0)
    {v : Int → Int} (hv : agrN r v t) (hp : p ≤ v r) : ¬ goodW g c v := by
  rintro ⟨h1, h2⟩
  have hn := hw.1
  have hl := preW_lst ht hn.1
  have hE := gapS_0.mp h2
  have hev := oddF_all ho
  have hvr := preW_at h1 hn.1 hr
  have hm : ∀ k : Int, fsP g k v (r + 1) ≤ fsE g c v k ∧ ahF g k (lst v (r + 1)).toNat - fsP g k v (r + 1) ≤ ahF g k (g 0).toNat - fsE g c v k := fun k => by
    have a := fsP_m hw k (m := r + 1) (by omega) h1
    have b := fsE_m hw k h1
    omega
  have hs : ∀ k : Int, fsP g k v (r + 1) = (if (r : Int) % 2 = 0 then fsP g k t r + ahF g k (v r).toNat - ahF g k (lst t r).toNat else fsP g k t r) := fun k => by
    rw [fsP, fsP_c k hv, lst_c hv]
    split <;> omega
  rcases hov with h | h
  · obtain ⟨k, ⟨k0, k1⟩, hk⟩ := ovF_1 h
    have a := hm k
    have b := hs k
    have d := ahF_mono hw k (p := p.toNat) (q := (v r).toNat) (by omega) (by omega)
    have e := hE k k0 k1
    have e2 := hev k k0 k1
    unfold wrF at hk
    simp only [] at hk
    by_cases hc : (r : Int) % 2 = 0
    · rw [if_pos hc] at hk b
      omega
    · rw [if_neg hc] at hk b
      omega
  · obtain ⟨k, ⟨k0, k1⟩, hk⟩ := ovF_1 h
    have a := hm k
    have b := hs k
    rw [lst_s] at a
    have d := ahF_mono hw k (p := p.toNat) (q := (v r).toNat) (by omega) (by omega)
    have e := hE k k0 k1
    have e2 := hev k k0 k1
    unfold wrF at hk
    simp only [] at hk
    by_cases hc : (r : Int) % 2 = 0
    · rw [if_pos hc] at hk b
      omega
    · rw [if_neg hc] at hk b
      omega
/-- whether the first cuts can be gone on with; and the lowest way to do it -/
noncomputable def dvV (g : Int → Int) (c r : Nat) (t : Int → Int) : Int := @ite _ (∃ v : Int → Int, agrN r v t ∧ goodW g c v) (Classical.propDecidable _) 1 0
theorem dvV_1 {g : Int → Int} {c r : Nat} {t v : Int → Int} (h1 : agrN r v t) (h2 : goodW g c v) : dvV g c r t = 1 := by
  unfold dvV
  exact if_pos ⟨v, h1, h2⟩
theorem dvV_0 {g : Int → Int} {c r : Nat} {t : Int → Int} (h : ∀ v : Int → Int, agrN r v t → ¬ goodW g c v) : dvV g c r t = 0 := by
  unfold dvV
  exact if_neg (fun ⟨v, a, b⟩ => h v a b)
theorem dvV_or (g : Int → Int) (c r : Nat) (t : Int → Int) : (dvV g c r t = 1 ∧ ∃ v : Int → Int, agrN r v t ∧ goodW g c v) ∨ (dvV g c r t = 0 ∧ ∀ v : Int → Int, agrN r v t → ¬ goodW g c v) := by
  by_cases h : ∃ v : Int → Int, agrN r v t ∧ goodW g c v
  · exact Or.inl ⟨if_pos h, h⟩
  · exact Or.inr ⟨if_neg h, fun v a b => h ⟨v, a, b⟩⟩
/-- the lowest one that goes on from the first cuts -/
def lowW (g : Int → Int) (c r : Nat) (t u : Int → Int) : Prop := agrN r u t ∧ goodW g c u ∧ ∀ v : Int → Int, agrN r v t → goodW g c v → ¬ lexT c v u
theorem lowW_up {g : Int → Int} {c r : Nat} (hr : r < c) {t u : Int → Int} {p : Int} (hno : ∀ v : Int → Int, agrN r v t → goodW g c v → p ≤ v r) (h : lowW g c (r + 1) (uq t r p) u) : lowW g c r t u ∧ u r = p := by
  obtain ⟨h1, h2, h3⟩ := h
  have hur : u r = p := by rw [h1 r (by omega), uq_eq]
  have hu : agrN r u t := fun i hi => by rw [h1 i (by omega), uq_ne _ _ (by omega)]
  refine ⟨⟨hu, h2, fun v hv hg hl => ?_⟩, hur⟩
  have hp := hno v hv hg
  by_cases e : v r = p
  · refine h3 v (fun i hi => ?_) hg hl
    by_cases hi2 : i = r
    · subst hi2; rw [e, uq_eq]
    · rw [hv i (by omega), uq_ne _ _ (by omega)]
  · obtain ⟨d, d0, d1, d2, d3⟩ := hl
    rcases Int.lt_trichotomy d r with hd | hd | hd
    · obtain ⟨m, rfl⟩ := Int.eq_ofNat_of_zero_le d0
      have a := hv m (by omega)
      have b := hu m (by omega)
      omega
    · subst hd; omega
    · have := d2 r (by omega) hd
      omega
theorem preW_up {n : Int} {r : Nat} {t : Int → Int} (h : preW n r t) {p : Int} (h1 : lst t r < p) (h2 : p < n) : preW n (r + 1) (uq t r p) := fun i hi => by
  have ha : agrN r (uq t r p) t := fun i hi => uq_ne _ _ (by omega)
  by_cases e : i = r
  · subst e; rw [uq_eq, lst_c ha]; exact ⟨h1, h2⟩
  · rw [ha i (by omega), lst_c (ha.le (by omega))]; exact h i (by omega)
def dwP (g : Int → Int) (c r : Nat) (t : Int → Int) (S S' : SS) : Prop := (dvV g c r t = 0 → S' = S) ∧ (dvV g c r t = 1 → ∃ u F : Int → Int, lowW g c r t u ∧ S' = us S 79 F ∧ (∀ i : Nat, r ≤ i → i < c → F i = u i) ∧ ∀ b : Int, b < r → F b = S 79 b)
theorem dvV_in (g : Int → Int) (c r : Nat) (t : Int → Int) : dvV g c r t = 0 ∨ dvV g c r t = 1 := by
  rcases dvV_or g c r t with h | h
  · exact Or.inr h.1
  · exact Or.inl h.1
