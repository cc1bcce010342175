/-! THE CLASS'S FACE: a change of the necklace, which the history remembers -/
def chP (S S' : SS) (G : Int → Int) : Prop := vw S' 0 = G ∧ vw S' (4 + (S 75 0).toNat) = vw S 0 ∧ (S' 75 0 = hxN (S 75 0) ∧ S' 75 1 = hxC (S 75 1)) ∧ ∀ m : Nat, 4 ≤ m → m ≠ 75 → (m < 4 * (4 + (S 75 0).toNat) ∨ 4 * (4 + (S 75 0).toNat) + 4 ≤ m) → S' m = S m
theorem rm_vw {S Sy : SS} (hf : ∀ m : Nat, m ≠ 75 → (m < 4 * (4 + (S 75 0).toNat) ∨ 4 * (4 + (S 75 0).toNat) + 4 ≤ m) → Sy m = S m) : vw Sy 0 = vw S 0 := by
  funext c
  unfold vw
  rw [hf (4 * 0) (by decide) (by omega), hf (4 * 0 + 1) (by decide) (by omega), hf (4 * 0 + 2) (by decide) (by omega), hf (4 * 0 + 3) (by decide) (by omega)]
theorem chP_of {S Sy Sz : SS} {G : Int → Int} (hn : 0 ≤ S 75 0 ∧ S 75 0 < 14) (hr : vw Sy (4 + (S 75 0).toNat) = vw S 0) (hk : Sy 75 0 = hxN (S 75 0)) (hk1 : Sy 75 1 = hxC (S 75 1)) (hf : ∀ m : Nat, m ≠ 75 → (m < 4 * (4 + (S 75 0).toNat) ∨ 4 * (4 + (S 75 0).toNat) + 4 ≤ m) → Sy m = S m) (hv : vw Sz 0 = G) (hz : ∀ m : Nat, 4 ≤ m → m ≠ 77 → m ≠ 78 → m ≠ 79 → Sz m = Sy m) (hd : Sz 77 = Sy 77 ∧ Sz 78 = Sy 78 ∧ Sz 79 = Sy 79) : chP S Sz G := by
  have hz2 : ∀ m : Nat, 4 ≤ m → Sz m = Sy m := fun m hm => by
    by_cases h7 : m = 77
    · rw [h7]; exact hd.1
    · by_cases h8 : m = 78
      · rw [h8]; exact hd.2.1
      · by_cases h9 : m = 79
        · rw [h9]; exact hd.2.2
        · exact hz m hm h7 h8 h9
  refine ⟨hv, ?_, ⟨by rw [hz2 75 (by decide)]; exact hk, by rw [hz2 75 (by decide)]; exact hk1⟩, fun m h4 h5 h => by rw [hz2 m h4]; exact hf m h5 h⟩
  rw [← hr]
  funext c
  unfold vw
  rw [hz2 _ (by omega), hz2 _ (by omega), hz2 _ (by omega), hz2 _ (by omega)]
theorem chP_fr {S Sy Sz : SS} {G : Int → Int} (hn : 0 ≤ S 75 0 ∧ S 75 0 < 14) (hr : vw Sy (4 + (S 75 0).toNat) = vw S 0) (hk : Sy 75 0 = hxN (S 75 0)) (hk1 : Sy 75 1 = hxC (S 75 1)) (hf : ∀ m : Nat, m ≠ 75 → (m < 4 * (4 + (S 75 0).toNat) ∨ 4 * (4 + (S 75 0).toNat) + 4 ≤ m) → Sy m = S m) (hv : vw Sz 0 = G) (hz : fr Sy Sz 0) : chP S Sz G :=
  chP_of hn hr hk hk1 hf hv (fun m hm _ _ _ => hz m (by omega)) ⟨hz 77 (by omega), hz 78 (by omega), hz 79 (by omega)⟩
theorem hs_in {S : SS} (hn : 0 ≤ S 75 0 ∧ S 75 0 < 14) : ∀ m : Nat, m < 4 ∨ 72 ≤ m → (m < 4 * (4 + (S 75 0).toNat) ∨ 4 * (4 + (S 75 0).toNat) + 4 ≤ m) := fun m h => by omega
/-- take of the class: what is refused is counted -/
theorem takeM_G {g : Int → Int} {r : Int} (h0 : 0 ≤ r) (h1 : r < runsF g) (h : whyF g r = 0) : takeG g r = takeM g r := by
  rw [takeG, if_pos ⟨⟨h0, h1⟩, h⟩, takeM, if_pos h]
/-- bestBreak of the class: the best one, and how many cuts the next may have -/
noncomputable def bkG (g : Int → Int) : Nat → Int × Int
  | 0 => (-1, 6)
  | n + 1 => if fbV (uq g 1 n) (bkG g n).2 = -1 then bkG g n else ((n : Int), fbV (uq g 1 n) (bkG g n).2 - 1)
theorem bkG_s1 (g : Int → Int) (n : Nat) : (bkG g (n + 1)).1 = if fbV (uq g 1 n) (bkG g n).2 = -1 then (bkG g n).1 else (n : Int) := by
  rw [bkG]; split <;> rfl
theorem bkG_s2 (g : Int → Int) (n : Nat) : (bkG g (n + 1)).2 = if fbV (uq g 1 n) (bkG g n).2 = -1 then (bkG g n).2 else fbV (uq g 1 n) (bkG g n).2 - 1 := by
  rw [bkG]; split <;> rfl
theorem bkG_in (g : Int → Int) (n : Nat) : (-1 ≤ (bkG g n).1 ∧ (bkG g n).1 < n) ∧ -1 ≤ (bkG g n).2 ∧ (bkG g n).2 ≤ 6 := by
  induction n with
  | zero => exact ⟨⟨(by decide : (-1 : Int) ≤ -1), (by decide : (-1 : Int) < 0)⟩, (by decide : (-1 : Int) ≤ 6), (by decide : (6 : Int) ≤ 6)⟩
  | succ n ih =>
    have h := fbV_in (uq g 1 n) (bkG g n).2
    rw [bkG_s1, bkG_s2]
    split
    · exact ⟨⟨ih.1.1, by omega⟩, ih.2⟩
    · exact ⟨⟨by omega, by omega⟩, by omega, by omega⟩
/-- bestRun of the class -/
def ckT (g : Int → Int) (n : Nat) : Int := gapF (giveG g n (g 2))
def ckG (g : Int → Int) : Nat → Int × Int
  | 0 => (-1, 0)
  | n + 1 => if whyF g n = 0 ∧ ((ckG g n).1 = -1 ∨ ckT g n < (ckG g n).2) then ((n : Int), ckT g n) else ckG g n
theorem ckG_s1 (g : Int → Int) (n : Nat) : (ckG g (n + 1)).1 = if whyF g n = 0 ∧ ((ckG g n).1 = -1 ∨ ckT g n < (ckG g n).2) then (n : Int) else (ckG g n).1 := by
  rw [ckG]; split <;> rfl
theorem ckG_s2 (g : Int → Int) (n : Nat) : (ckG g (n + 1)).2 = if whyF g n = 0 ∧ ((ckG g n).1 = -1 ∨ ckT g n < (ckG g n).2) then ckT g n else (ckG g n).2 := by
  rw [ckG]; split <;> rfl
theorem ckG_in {g : Int → Int} (h : wf g) (n : Nat) : (-1 ≤ (ckG g n).1 ∧ (ckG g n).1 < n) ∧ 0 ≤ (ckG g n).2 ∧ (ckG g n).2 ≤ 576 := by
  induction n with
  | zero => exact ⟨⟨(by decide : (-1 : Int) ≤ -1), (by decide : (-1 : Int) < 0)⟩, (by decide : (0 : Int) ≤ 0), (by decide : (0 : Int) ≤ 576)⟩
  | succ n ih =>
    have h2 := gapF_in (wf_giveG h n (g 2))
    rw [ckG_s1, ckG_s2]
    unfold ckT
    split
    · exact ⟨⟨by omega, by omega⟩, h2⟩
    · exact ⟨⟨ih.1.1, by omega⟩, ih.2⟩
/-- a script of the class, group by group -/
noncomputable def rcA (s n : Int) : Nat → (Int → Int) → Int
  | 0, _ => -1
  | j + 1, g => if cmB (grp s j / 10000) (grp s j % 10000) g = 0 then n - ((j : Int) + 1) else rcA s n j (ccG (grp s j / 10000) (grp s j % 10000) g)
theorem rcA_s {s n : Int} {j : Nat} (h : 0 < j) (g : Int → Int) : rcA s n j g = if cmB (grp s (j - 1) / 10000) (grp s (j - 1) % 10000) g = 0 then n - (j : Int) else rcA s n (j - 1) (ccG (grp s (j - 1) / 10000) (grp s (j - 1) % 10000) g) := by
  obtain ⟨i, rfl⟩ : ∃ i, j = i + 1 := ⟨j - 1, by omega⟩
  rw [rcA, show i + 1 - 1 = i by omega]; rfl
def f1t (S S' : SS) : Prop := ∀ m : Nat, (m < 4 ∨ 8 ≤ m) → m ≠ 77 → m ≠ 78 → m ≠ 79 → S' m = S m
theorem fr_1t {S S' : SS} (h : fr S S' 1) : f1t S S' := fun m h1 _ _ _ => h m (by omega)
def laV (g : Int → Int) : Int := 10000 * g 0 + 100 * runsF g + (if 99 < gapF g then 99 else gapF g)
def cd_len (z c : Int) : Int := if 0 ≤ c ∧ c ≤ 255 then (if z ≥ 120 then 2 else 0) else 1
def cd_e (x : Int) : Int := if x = -1 then 0 else 1
/-- divide of the class -/
noncomputable def lsT (g : Int → Int) (t : Int → Int) : Nat → Int → Int
  | 0 => freeF g
  | n + 1 => cutG (lsT g t n) (t n) 1
