/-! DIVISION: weighed for the string of the row g -/
def wd (S : SS) (g : Int → Int) : Prop := S 77 0 = g 0 ∧ S 77 1 = pkF (fun k => ahF g k (g 0).toNat) / 2 ∧ ∀ p : Nat, (p : Int) ≤ g 0 → S 78 p = pkF (fun k => ahF g k p)
def fd (S S' : SS) : Prop := ∀ m : Nat, m ≠ 77 → m ≠ 78 → S' m = S m
theorem ahF_R {g : Int → Int} (hw : wf g) (n : Nat) (hn : (n : Int) ≤ g 0) : pkR (fun k => ahF g k n) 32768 := fun k _ _ => by
  have := ahF_b hw k n hn
  simp only []
  omega
theorem ahF_s (g : Int → Int) (k : Int) (n : Nat) : ahF g k (n + 1) = ahF g k n + ahE g k n := rfl
theorem ahF_0 (g : Int → Int) (k : Int) : ahF g k 0 = 0 := rfl
theorem lI_shlk {v k : Int} (hv : 0 ≤ v) (k0 : 0 ≤ k) (k1 : k < 4) : lI v <<< ((iI (16 * k)).toInt64 &&& 63) = lI (v * 2 ^ (16 * k).toNat) := by
  have h := lI_shl (v := v) (n := (16 * k).toNat) hv (by omega)
  rw [show (((16 * k).toNat : Nat) : Int) = 16 * k by omega] at h
  exact h
theorem lI_ushrk {x k : Int} (h0 : 0 ≤ x) (h1 : x < 18446744073709551616) (k0 : 0 ≤ k) (k1 : k < 64) : ((lI x).toUInt64 >>> ((iI k).toInt64.toUInt64 &&& Int64.toUInt64 63)).toInt64 = lI (x / 2 ^ k.toNat) := by
  have h := lI_ushrN (n := x.toNat) (k := k.toNat) (by omega) (by omega)
  rw [show ((x.toNat : Nat) : Int) = x by omega, show ((k.toNat : Nat) : Int) = k by omega] at h
  rw [h]
  congr 1
  rw [Int.natCast_ediv, show ((x.toNat : Nat) : Int) = x by omega, Int.natCast_pow]
  rfl
theorem wf_brk1 {g : Int → Int} (h : wf g) {b : Int} (b0 : 0 ≤ b) (b1 : b < g 0 ∨ (g 0 = 0 ∧ b = 0)) : wf (uq g 1 b) := by
  obtain ⟨a1, a2, a3, a4, a5, a6, a7, a8, a9⟩ := h
  have f : ∀ c : Int, c ≠ 1 → uq g 1 b c = g c := fun c hc => uq_ne _ _ hc
  refine ⟨by rw [f 0 (by decide)]; exact a1, by rw [f 0 (by decide), uq_eq]; exact ⟨b0, b1⟩, by rw [f 2 (by decide)]; exact a3, by rw [f 4 (by decide)]; exact a4, by rw [f 5 (by decide)]; exact a5, by rw [f 5 (by decide), f 0 (by decide)]; exact a6, fun j h0 h1 => ?_, fun p h0 h1 => ?_, fun p h0 h1 h2 => ?_⟩
  · rw [f 0 (by decide)] at h1
    rw [f _ (by omega), f _ (by omega)]; exact a7 j h0 h1
  · rw [f _ (by omega)]; exact a8 p h0 h1
  · rw [f 0 (by decide)] at h1
    rw [f 5 (by decide)] at h2
    rw [f _ (by omega), f _ (by omega)]; exact a9 p h0 h1 h2
theorem jat_1 (g : Int → Int) (b p : Int) : jatF (uq g 1 b) p = (b + p) % g 0 := by
  unfold jatF
  rw [uq_eq, uq_ne _ _ (by decide)]
theorem val_1 (g : Int → Int) (b : Int) {j : Int} (h : 0 ≤ j) : valF (uq g 1 b) j = valF g j := by
  unfold valF
  rw [uq_ne _ _ (by decide), uq_ne _ _ (by omega)]
theorem fd_vw {S S' : SS} (h : fd S S') {i : Nat} (hi : i < 18) : vw S' i = vw S i := by
  funext c
  unfold vw
  rw [h (4 * i) (by omega) (by omega), h (4 * i + 1) (by omega) (by omega), h (4 * i + 2) (by omega) (by omega), h (4 * i + 3) (by omega) (by omega)]
theorem wd_p {S : SS} {g : Int → Int} (h : wd S g) {p : Int} (h0 : 0 ≤ p) (h1 : p ≤ g 0) : S 78 p = pkF (fun k => ahF g k p.toNat) := by
  have := h.2.2 p.toNat (by omega)
  rwa [show ((p.toNat : Nat) : Int) = p by omega] at this
def oddF (g : Int → Int) : Int := if ahF g 0 (g 0).toNat % 2 = 0 ∧ ahF g 1 (g 0).toNat % 2 = 0 ∧ ahF g 2 (g 0).toNat % 2 = 0 ∧ ahF g 3 (g 0).toNat % 2 = 0 then 0 else 1
theorem odd_iff (g : Int → Int) : pkF (fun k => ahF g k (g 0).toNat % 2) = 0 ↔ oddF g = 0 := by
  unfold oddF pkF
  simp only []
  constructor
  · intro h; rw [if_pos (by omega)]
  · intro h
    split at h
    · omega
    · omega
theorem oddF_in (g : Int → Int) : 0 ≤ oddF g ∧ oddF g ≤ 1 := by unfold oddF; split <;> omega
theorem oddF_all {g : Int → Int} (h : oddF g = 0) : ∀ k : Int, 0 ≤ k → k < 4 → ahF g k (g 0).toNat % 2 = 0 := by
  unfold oddF at h
  split at h
  · next hh => exact k4 hh.1 hh.2.1 hh.2.2.1 hh.2.2.2
  · omega
def ovF (h f : Int → Int) : Int := if f 0 ≤ h 0 ∧ f 1 ≤ h 1 ∧ f 2 ≤ h 2 ∧ f 3 ≤ h 3 then 0 else 1
theorem ovF_in (h f : Int → Int) : 0 ≤ ovF h f ∧ ovF h f ≤ 1 := by unfold ovF; split <;> omega
theorem ov_iff {h f : Int → Int} (hh : pkR h 32768) (hf : pkR f 32768) : (lI (pkF (fun k => h k + 32768 - f k)) &&& lI (-9223231297218904064)).toInt = -9223231297218904064 ↔ ovF h f = 0 := by
  have a := hh.four
  have b := hf.four
  have hR : pkR (fun k => h k + 32768 - f k) 65536 := fun k k0 k1 => by
    have := hh k k0 k1; have := hf k k0 k1
    simp only []
    omega
  have hk := pz_keep hR
  constructor
  · intro e
    have e2 : lI (pkF (fun k => h k + 32768 - f k)) &&& lI (-9223231297218904064) = lI (-9223231297218904064) := by
      have e3 := congrArg lI e
      rw [lI_self] at e3
      exact e3
    have h2 := hk.mp e2
    have c0 := h2 0 (by decide) (by decide)
    have c1 := h2 1 (by decide) (by decide)
    have c2 := h2 2 (by decide) (by decide)
    have c3 := h2 3 (by decide) (by decide)
    rw [ovF, if_pos (by omega)]
  · intro e
    have h2 : f 0 ≤ h 0 ∧ f 1 ≤ h 1 ∧ f 2 ≤ h 2 ∧ f 3 ≤ h 3 := by
      unfold ovF at e
      split at e
      · assumption
      · omega
    rw [hk.mpr (k4 (by omega) (by omega) (by omega) (by omega))]
    decide
def wrF (g s : Int → Int) (r a b : Int) : Int → Int := fun k => if r % 2 = 0 then s k + ahF g k b.toNat - ahF g k a.toNat else s k
theorem wr_t {g s : Int → Int} {r a b : Int} (h : r % 2 = 0) : pkF s + pkF (fun k => ahF g k b.toNat) - pkF (fun k => ahF g k a.toNat) = pkF (wrF g s r a b) := by
  rw [pz_add, pz_sub]
  congr 1
  funext k
  rw [wrF, if_pos h]
theorem wr_f {g s : Int → Int} {r a b : Int} (h : ¬ r % 2 = 0) : pkF s = pkF (wrF g s r a b) := by
  congr 1
  funext k
  rw [wrF, if_neg h]
def gpS (g s : Int → Int) (k : Int) : Int := absI (ahF g k (g 0).toNat - 2 * s k)
def gapS (g s : Int → Int) : Int := sm (gpS g s) 4
theorem gpS_in {g s : Int → Int} (hw : wf g) {k : Int} (hs : 0 ≤ s k ∧ s k < 32768) : 0 ≤ gpS g s k ∧ gpS g s k ≤ 65536 := by
  have := ahF_b hw k (g 0).toNat (by have := hw.1; omega)
  unfold gpS absI
  split <;> omega
theorem sm_gpS {g s : Int → Int} (hw : wf g) (hs : pkR s 32768) (n : Nat) (hn : n ≤ 4) : 0 ≤ sm (gpS g s) n ∧ sm (gpS g s) n ≤ 65536 * n := by
  induction n with
  | zero => exact ⟨Int.le_refl _, Int.le_refl _⟩
  | succ n ih =>
    have h1 := ih (by omega)
    have h2 := gpS_in hw (hs n (by omega) (by omega))
    rw [sm_s]
    omega
theorem pkR.up {f : Int → Int} {b c : Int} (h : pkR f b) (hbc : b ≤ c) : pkR f c := fun k k0 k1 => ⟨(h k k0 k1).1, Int.lt_of_lt_of_le (h k k0 k1).2 hbc⟩
