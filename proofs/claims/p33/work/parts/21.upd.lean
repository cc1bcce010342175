def ownF (g : Int → Int) (p : Nat) : Int → Int := fun c => if 38 ≤ c ∧ c < 38 + p then -1 else g c
theorem ownF_0 (g : Int → Int) : ownF g 0 = g := by
  funext c
  unfold ownF
  rw [if_neg (by omega)]
theorem ownF_s (g : Int → Int) (p : Nat) : uq (ownF g p) (38 + p) (-1) = ownF g (p + 1) := by
  funext c
  unfold uq ownF
  by_cases e : c = 38 + p
  · rw [if_pos e, if_pos (by omega)]
  · rw [if_neg e]
    by_cases e2 : 38 ≤ c ∧ c < 38 + p
    · rw [if_pos e2, if_pos (by omega)]
    · rw [if_neg e2, if_neg (by omega)]
theorem ownF_16 (g : Int → Int) : ownF (uq g 5 0) 16 = freeF g := by
  funext c
  show (if 38 ≤ c ∧ c < 38 + ((16 : Nat) : Int) then (-1 : Int) else if c = 5 then 0 else g c) = if c = 5 then 0 else if 38 ≤ c ∧ c < 54 then -1 else g c
  by_cases e : c = 5
  · subst e; rfl
  · rw [if_neg e, if_neg e]
    rfl
theorem freeF_lo (g : Int → Int) {c : Int} (h : c < 38) (h5 : c ≠ 5) : freeF g c = g c := by
  unfold freeF
  rw [if_neg h5, if_neg (by omega)]
theorem freeF_5 (g : Int → Int) : freeF g 5 = 0 := rfl
theorem freeF_o (g : Int → Int) {p : Int} (h0 : 0 ≤ p) (h1 : p < 16) : freeF g (38 + p) = -1 := by
  unfold freeF
  rw [if_neg (by omega), if_pos (by omega)]
theorem wf_free {g : Int → Int} (a1 : 0 ≤ g 0 ∧ g 0 ≤ 16) (a2 : 0 ≤ g 1 ∧ (g 1 < g 0 ∨ (g 0 = 0 ∧ g 1 = 0))) (a3 : 0 ≤ g 2 ∧ g 2 ≤ 1) (a4 : 0 ≤ g 4 ∧ g 4 ≤ 1) (a7 : ∀ j : Int, 0 ≤ j → j < g 0 → (0 ≤ g (6 + j) ∧ g (6 + j) < 4) ∧ 1 ≤ g (22 + j) ∧ g (22 + j) ≤ 9) : wf (freeF g) := by
  have e0 : freeF g 0 = g 0 := freeF_lo g (by decide) (by decide)
  refine ⟨by rw [e0]; exact a1, by rw [e0, freeF_lo g (c := 1) (by decide) (by decide)]; exact a2, by rw [freeF_lo g (c := 2) (by decide) (by decide)]; exact a3, by rw [freeF_lo g (c := 4) (by decide) (by decide)]; exact a4, ⟨by rw [freeF_5]; decide, by rw [freeF_5]; decide⟩, fun p hp => ?_, fun j h0 h1 => ?_, fun p h0 h1 => ?_, fun p h0 h1 _ => ?_⟩
  · rw [freeF_5] at hp
    have : (0 : Nat).testBit p = true := hp
    rw [Nat.zero_testBit] at this
    cases this
  · rw [e0] at h1
    have h2 := a7 j h0 h1
    rw [freeF_lo g (c := 6 + j) (by omega) (by omega), freeF_lo g (c := 22 + j) (by omega) (by omega)]
    exact h2
  · rw [freeF_o g h0 h1]
    omega
  · rw [e0] at h1
    rw [freeF_o g (by omega) (by omega), freeF_o g (by omega) (by omega)]
def addG (g : Int → Int) (k w : Int) : Int → Int := if (0 ≤ k ∧ k < 4) ∧ (1 ≤ w ∧ w ≤ 9) ∧ g 0 < 16 then addF g k w else g
def swapG (g : Int → Int) (i j : Int) : Int → Int := if (0 ≤ i ∧ i < g 0) ∧ 0 ≤ j ∧ j < g 0 then swapF g i j else g
def brkG (g : Int → Int) (j : Int) : Int → Int := if 0 ≤ j ∧ j < g 0 then brkF g j else g
def cutG (g : Int → Int) (p b : Int) : Int → Int := if 1 ≤ p ∧ p < g 0 then cutF g p (b = 1) else g
def giveG (g : Int → Int) (r o : Int) : Int → Int := if (0 ≤ r ∧ r < runsF g) ∧ (o = -1 ∨ o = 0 ∨ o = 1) then giveF g r o else g
def takeG (g : Int → Int) (r : Int) : Int → Int := if (0 ≤ r ∧ r < runsF g) ∧ whyF g r = 0 then takeF g r else g
def dealG (g : Int → Int) (s : Int) : Int → Int := if s = 0 ∨ s = 1 then dealF g s else g
def setG (g : Int → Int) (v : Int) : Int → Int := if v = 0 ∨ v = 1 then uq g 4 v else g
theorem wf_add {g : Int → Int} (h : wf g) {k w : Int} (hk : 0 ≤ k ∧ k < 4) (hw : 1 ≤ w ∧ w ≤ 9) (hn : g 0 < 16) : wf (addF g k w) := by
  obtain ⟨a1, a2, a3, a4, a5, a6, a7, a8, a9⟩ := h
  have f0 : uq (uq (uq g (6 + g 0) k) (22 + g 0) w) 0 (g 0 + 1) 0 = g 0 + 1 := uq_eq _ _ _
  have f1 : ∀ c : Int, 0 < c → c < 6 → uq (uq (uq g (6 + g 0) k) (22 + g 0) w) 0 (g 0 + 1) c = g c := fun c h0 h1 => by
    rw [uq_ne _ _ (by omega), uq_ne _ _ (by omega), uq_ne _ _ (by omega)]
  refine wf_free (by rw [f0]; omega) (by rw [f0, f1 1 (by decide) (by decide)]; omega) (by rw [f1 2 (by decide) (by decide)]; exact a3) (by rw [f1 4 (by decide) (by decide)]; exact a4) (fun j h0 h1 => ?_)
  rw [f0] at h1
  rw [uq_ne _ _ (by omega), uq_ne _ _ (by omega), uq_ne _ (c := 0) _ (by omega)]
  by_cases e : j = g 0
  · subst e
    rw [uq_eq, uq_eq]
    exact ⟨hk, hw⟩
  · have h2 := a7 j h0 (by omega)
    rw [uq_ne _ _ (by omega), uq_ne _ _ (by omega), uq_ne _ _ (by omega)]
    exact h2
theorem wf_brk {g : Int → Int} (h : wf g) {j : Int} (h0 : 0 ≤ j) (h1 : j < g 0) : wf (brkF g j) := by
  obtain ⟨a1, a2, a3, a4, a5, a6, a7, a8, a9⟩ := h
  have f : ∀ c : Int, c ≠ 1 → uq g 1 j c = g c := fun c hc => uq_ne _ _ hc
  refine wf_free (by rw [f 0 (by decide)]; exact a1) (by rw [f 0 (by decide), uq_eq]; omega) (by rw [f 2 (by decide)]; exact a3) (by rw [f 4 (by decide)]; exact a4) (fun i i0 i1 => ?_)
  rw [f 0 (by decide)] at i1
  rw [f _ (by omega), f _ (by omega)]
  exact a7 i i0 i1
theorem swapF_lo (g : Int → Int) {i j c : Int} (hi : 0 ≤ i ∧ i < 16) (hj : 0 ≤ j ∧ j < 16) (h : c < 6 ∨ 38 ≤ c) : swapF g i j c = g c := by
  unfold swapF
  rw [uq_ne _ _ (by omega), uq_ne _ _ (by omega), uq_ne _ _ (by omega), uq_ne _ _ (by omega)]
theorem swapF_k (g : Int → Int) {i j x : Int} (hi : 0 ≤ i ∧ i < 16) (hj : 0 ≤ j ∧ j < 16) (hx : 0 ≤ x ∧ x < 16) : swapF g i j (6 + x) = if x = j then g (6 + i) else if x = i then g (6 + j) else g (6 + x) := by
  unfold swapF
  rw [uq_ne _ _ (by omega)]
  by_cases e : x = j
  · subst e; rw [uq_eq, if_pos rfl]
  · rw [if_neg e, uq_ne _ _ (by omega), uq_ne _ _ (by omega)]
    by_cases e2 : x = i
    · subst e2; rw [uq_eq, if_pos rfl]
    · rw [if_neg e2, uq_ne _ _ (by omega)]
theorem swapF_w (g : Int → Int) {i j x : Int} (hi : 0 ≤ i ∧ i < 16) (hj : 0 ≤ j ∧ j < 16) (hx : 0 ≤ x ∧ x < 16) : swapF g i j (22 + x) = if x = j then g (22 + i) else if x = i then g (22 + j) else g (22 + x) := by
  unfold swapF
  by_cases e : x = j
  · subst e; rw [uq_eq, if_pos rfl]
  · rw [if_neg e, uq_ne _ _ (by omega), uq_ne _ _ (by omega)]
    by_cases e2 : x = i
    · subst e2; rw [uq_eq, if_pos rfl]
    · rw [if_neg e2, uq_ne _ _ (by omega), uq_ne _ _ (by omega)]
theorem wf_swap {g : Int → Int} (h : wf g) {i j : Int} (i0 : 0 ≤ i) (i1 : i < g 0) (j0 : 0 ≤ j) (j1 : j < g 0) : wf (swapF g i j) := by
  obtain ⟨a1, a2, a3, a4, a5, a6, a7, a8, a9⟩ := h
  have f : ∀ c : Int, (c < 6 ∨ 38 ≤ c) → swapF g i j c = g c := fun c hc => swapF_lo g ⟨i0, by omega⟩ ⟨j0, by omega⟩ hc
  refine ⟨by rw [f 0 (by decide)]; exact a1, by rw [f 0 (by decide), f 1 (by decide)]; exact a2, by rw [f 2 (by decide)]; exact a3, by rw [f 4 (by decide)]; exact a4, by rw [f 5 (by decide)]; exact a5, by rw [f 5 (by decide), f 0 (by decide)]; exact a6, fun x h0 h1 => ?_, fun p h0 h1 => ?_, fun p h0 h1 h2 => ?_⟩
  · rw [f 0 (by decide)] at h1
    rw [swapF_k g ⟨i0, by omega⟩ ⟨j0, by omega⟩ ⟨h0, by omega⟩, swapF_w g ⟨i0, by omega⟩ ⟨j0, by omega⟩ ⟨h0, by omega⟩]
    have hi := a7 i i0 i1
    have hj := a7 j j0 j1
    have hx := a7 x h0 h1
    by_cases e : x = j
    · rw [if_pos e, if_pos e]; exact hi
    · rw [if_neg e, if_neg e]
      by_cases e2 : x = i
      · rw [if_pos e2, if_pos e2]; exact hj
      · rw [if_neg e2, if_neg e2]; exact hx
  · rw [f (38 + p) (by omega)]; exact a8 p h0 h1
  · rw [f 0 (by decide)] at h1
    rw [f 5 (by decide)] at h2
    rw [f (38 + p) (by omega), f (38 + (p - 1)) (by omega)]; exact a9 p h0 h1 h2
theorem giveF_lo (g : Int → Int) (r o : Int) {c : Int} (h : c < 38) : giveF g r o c = g c := by
  unfold giveF
  rw [if_neg (by omega)]
theorem giveF_o (g : Int → Int) (r o : Int) {p : Int} (h0 : 0 ≤ p) : giveF g r o (38 + p) = if p < g 0 ∧ runF g p = r then o else g (38 + p) := by
  unfold giveF
  rw [show 38 + p - 38 = p by omega]
  by_cases e : p < g 0 ∧ runF g p = r
  · rw [if_pos e, if_pos ⟨by omega, by omega, e.2⟩]
  · rw [if_neg e, if_neg (fun z => e ⟨by omega, z.2.2⟩)]
theorem runF_same {g : Int → Int} {p : Int} (h0 : 1 ≤ p) (hb : (g 5).toNat.testBit p.toNat = false) : runF g p = runF g (p - 1) := by
  have h1 := runF_s g (p - 1).toNat
  rw [show (((p - 1).toNat + 1 : Nat) : Int) = p by omega, show (((p - 1).toNat : Nat) : Int) = p - 1 by omega, show (p - 1).toNat + 1 = p.toNat by omega, hb] at h1
  simpa using h1
theorem runF_congr {g h : Int → Int} (e : g 5 = h 5) (p : Int) : runF g p = runF h p := by unfold runF; rw [e]
/-- owners alone are changed -/
theorem wf_owners {g g' : Int → Int} (h : wf g) (hl : ∀ c : Int, c < 38 → c ≠ 2 → g' c = g c) (h2 : 0 ≤ g' 2 ∧ g' 2 ≤ 1) (ho : ∀ p : Int, 0 ≤ p → p < 16 → -1 ≤ g' (38 + p) ∧ g' (38 + p) ≤ 1) (hu : ∀ p : Int, 1 ≤ p → p < g 0 → (g 5).toNat.testBit p.toNat = false → g' (38 + p) = g' (38 + (p - 1))) : wf g' := by
  obtain ⟨a1, a2, a3, a4, a5, a6, a7, a8, a9⟩ := h
  refine ⟨by rw [hl 0 (by decide) (by decide)]; exact a1, by rw [hl 0 (by decide) (by decide), hl 1 (by decide) (by decide)]; exact a2, h2, by rw [hl 4 (by decide) (by decide)]; exact a4, by rw [hl 5 (by decide) (by decide)]; exact a5, by rw [hl 5 (by decide) (by decide), hl 0 (by decide) (by decide)]; exact a6, fun j h0 h1 => ?_, ho, fun p h0 h1 h3 => ?_⟩
  · rw [hl 0 (by decide) (by decide)] at h1
    rw [hl _ (by omega) (by omega), hl _ (by omega) (by omega)]
    exact a7 j h0 h1
  · rw [hl 0 (by decide) (by decide)] at h1
    rw [hl 5 (by decide) (by decide)] at h3
    exact hu p h0 h1 h3
theorem wf_give {g : Int → Int} (h : wf g) (r : Int) {o : Int} (ho : -1 ≤ o ∧ o ≤ 1) : wf (giveF g r o) := by
  have a8 := h.2.2.2.2.2.2.2.1
  have a9 := h.2.2.2.2.2.2.2.2
  refine wf_owners h (fun c hc _ => giveF_lo g r o hc) (by rw [giveF_lo g r o (by decide)]; exact h.2.2.1) (fun p h0 h1 => ?_) (fun p h0 h1 hb => ?_)
  · rw [giveF_o g r o h0]
    have := a8 p h0 h1
    split <;> omega
  · rw [giveF_o g r o (by omega), giveF_o g r o (by omega), ← runF_same h0 hb, a9 p h0 h1 hb]
    by_cases e : runF g p = r
    · rw [if_pos ⟨h1, e⟩, if_pos ⟨by omega, e⟩]
    · rw [if_neg (fun z => e z.2), if_neg (fun z => e z.2)]
theorem wf_take {g : Int → Int} (h : wf g) (r : Int) : wf (takeF g r) := by
  have hm := h.2.2.1
  have h1 := wf_give h r (o := g 2) (by omega)
  have e2 : ∀ c : Int, c ≠ 2 → takeF g r c = giveF g r (g 2) c := fun c hc => uq_ne _ _ hc
  refine wf_owners h1 (fun c hc hc2 => e2 c hc2) (by rw [takeF, uq_eq]; omega) (fun p h0 hp => ?_) (fun p h0 hp hb => ?_)
  · rw [e2 _ (by omega)]; exact h1.2.2.2.2.2.2.2.1 p h0 hp
  · rw [e2 _ (by omega), e2 _ (by omega)]; exact h1.2.2.2.2.2.2.2.2 p h0 hp hb
theorem dealF_o (g : Int → Int) (s : Int) {p : Int} (h0 : 0 ≤ p) : dealF g s (38 + p) = if p < g 0 then (s + runF g p) % 2 else g (38 + p) := by
  unfold dealF
  rw [show 38 + p - 38 = p by omega]
  by_cases e : p < g 0
  · rw [if_pos e, if_pos (by omega)]
  · rw [if_neg e, if_neg (by omega)]
theorem dealF_lo (g : Int → Int) (s : Int) {c : Int} (h : c < 38) : dealF g s c = g c := by
  unfold dealF
  rw [if_neg (by omega)]
theorem wf_deal {g : Int → Int} (h : wf g) (s : Int) : wf (dealF g s) := by
  have a8 := h.2.2.2.2.2.2.2.1
  refine wf_owners h (fun c hc _ => dealF_lo g s hc) (by rw [dealF_lo g s (by decide)]; exact h.2.2.1) (fun p h0 h1 => ?_) (fun p h0 h1 hb => ?_)
  · rw [dealF_o g s h0]
    have := a8 p h0 h1
    split <;> omega
  · rw [dealF_o g s (by omega), dealF_o g s (by omega), ← runF_same h0 hb, if_pos h1, if_pos (by omega)]
theorem wf_set {g : Int → Int} (h : wf g) {v : Int} (hv : 0 ≤ v ∧ v ≤ 1) : wf (uq g 4 v) := by
  obtain ⟨a1, a2, a3, a4, a5, a6, a7, a8, a9⟩ := h
  have f : ∀ c : Int, c ≠ 4 → uq g 4 v c = g c := fun c hc => uq_ne _ _ hc
  refine ⟨by rw [f 0 (by decide)]; exact a1, by rw [f 0 (by decide), f 1 (by decide)]; exact a2, by rw [f 2 (by decide)]; exact a3, by rw [uq_eq]; exact hv, by rw [f 5 (by decide)]; exact a5, by rw [f 5 (by decide), f 0 (by decide)]; exact a6, fun j h0 h1 => ?_, fun p h0 h1 => ?_, fun p h0 h1 h2 => ?_⟩
  · rw [f 0 (by decide)] at h1
    rw [f _ (by omega), f _ (by omega)]; exact a7 j h0 h1
  · rw [f _ (by omega)]; exact a8 p h0 h1
  · rw [f 0 (by decide)] at h1
    rw [f 5 (by decide)] at h2
    rw [f _ (by omega), f _ (by omega)]; exact a9 p h0 h1 h2
theorem wf_new (g : Int → Int) : wf (newF g) := by
  have f : ∀ c : Int, 0 ≤ c ∧ c < 6 → newF g c = 0 := fun c hc => by unfold newF; rw [if_pos hc]
  have fo : ∀ p : Int, 0 ≤ p → p < 16 → newF g (38 + p) = -1 := fun p h0 h1 => by unfold newF; rw [if_neg (by omega), if_pos (by omega)]
  have f0 := f 0 (by decide)
  refine ⟨by rw [f0]; decide, by rw [f0, f 1 (by decide)]; decide, by rw [f 2 (by decide)]; decide, by rw [f 4 (by decide)]; decide, by rw [f 5 (by decide)]; decide, fun p hp => ?_, fun j h0 h1 => ?_, fun p h0 h1 => ?_, fun p h0 h1 _ => ?_⟩
  · rw [f 5 (by decide)] at hp
    have : (0 : Nat).testBit p = true := hp
    rw [Nat.zero_testBit] at this
    cases this
  · rw [f0] at h1; omega
  · rw [fo p h0 h1]; omega
  · rw [f0] at h1; omega
theorem rotF_lo (g : Int → Int) (m : Int) {c : Int} (hn : g 0 ≤ 16) (h : c < 6 ∨ 38 ≤ c) : rotF g m c = g c := by
  unfold rotF
  rw [if_neg (by omega), if_neg (by omega)]
theorem rotF_k (g : Int → Int) (m : Int) (hn : g 0 ≤ 16) {x : Int} (h0 : 0 ≤ x) (h1 : x < g 0) : rotF g m (6 + x) = if x < m ∨ g 0 - 1 - x < m then g (6 + (g 0 - 1 - x)) else g (6 + x) := by
  unfold rotF
  rw [show 6 + x - 6 = x by omega, if_neg (show ¬ (22 ≤ 6 + x ∧ 6 + x < 22 + g 0 ∧ (6 + x - 22 < m ∨ g 0 - 1 - (6 + x - 22) < m)) by omega)]
  by_cases e : x < m ∨ g 0 - 1 - x < m
  · rw [if_pos e, if_pos ⟨by omega, by omega, e⟩]
  · rw [if_neg e, if_neg (fun z => e z.2.2)]
theorem rotF_w (g : Int → Int) (m : Int) (hn : g 0 ≤ 16) {x : Int} (h0 : 0 ≤ x) (h1 : x < g 0) : rotF g m (22 + x) = if x < m ∨ g 0 - 1 - x < m then g (22 + (g 0 - 1 - x)) else g (22 + x) := by
  unfold rotF
  rw [if_neg (by omega), show 22 + x - 22 = x by omega]
  by_cases e : x < m ∨ g 0 - 1 - x < m
  · rw [if_pos e, if_pos ⟨by omega, by omega, e⟩]
  · rw [if_neg e, if_neg (fun z => e z.2.2)]
theorem rotF_mid (g : Int → Int) (m : Int) (hn : g 0 ≤ 16) {c : Int} (h : (6 + g 0 ≤ c ∧ c < 22) ∨ 22 + g 0 ≤ c ∨ c < 6) : rotF g m c = g c := by
  unfold rotF
  rw [if_neg (by omega)]
  by_cases e : 22 ≤ c ∧ c < 22 + g 0 ∧ (c - 22 < m ∨ g 0 - 1 - (c - 22) < m)
  · omega
  · rw [if_neg e]
theorem rotF_0 (g : Int → Int) : rotF g 0 = g := by
  funext c
  unfold rotF
  rw [if_neg (by omega), if_neg (by omega)]
theorem wf_rot {g : Int → Int} (h : wf g) (m : Int) : wf (rotF g m) := by
  have hn := h.1.2
  have f : ∀ c : Int, (c < 6 ∨ 38 ≤ c) → rotF g m c = g c := fun c hc => rotF_lo g m hn hc
  obtain ⟨a1, a2, a3, a4, a5, a6, a7, a8, a9⟩ := h
  refine ⟨by rw [f 0 (by decide)]; exact a1, by rw [f 0 (by decide), f 1 (by decide)]; exact a2, by rw [f 2 (by decide)]; exact a3, by rw [f 4 (by decide)]; exact a4, by rw [f 5 (by decide)]; exact a5, by rw [f 5 (by decide), f 0 (by decide)]; exact a6, fun x h0 h1 => ?_, fun p h0 h1 => ?_, fun p h0 h1 h2 => ?_⟩
  · rw [f 0 (by decide)] at h1
    rw [rotF_k g m hn h0 h1, rotF_w g m hn h0 h1]
    have b1 := a7 x h0 h1
    have b2 := a7 (g 0 - 1 - x) (by omega) (by omega)
    by_cases e : x < m ∨ g 0 - 1 - x < m
    · rw [if_pos e, if_pos e]; exact b2
    · rw [if_neg e, if_neg e]; exact b1
  · rw [f _ (by omega)]; exact a8 p h0 h1
  · rw [f 0 (by decide)] at h1
    rw [f 5 (by decide)] at h2
    rw [f _ (by omega), f _ (by omega)]; exact a9 p h0 h1 h2
theorem rot_s {g : Int → Int} (hn : 0 ≤ g 0 ∧ g 0 ≤ 16) {m : Int} (h0 : 0 ≤ m) (h1 : m < g 0 - 1 - m) : swapF (rotF g m) m (g 0 - 1 - m) = rotF g (m + 1) := by
  funext c
  have hm : 0 ≤ m ∧ m < 16 := by omega
  have hk : 0 ≤ g 0 - 1 - m ∧ g 0 - 1 - m < 16 := by omega
  by_cases c1 : 6 ≤ c ∧ c < 6 + g 0
  · obtain ⟨x, rfl⟩ : ∃ x, c = 6 + x := ⟨c - 6, by omega⟩
    rw [swapF_k _ hm hk (by omega), rotF_k g (m + 1) hn.2 (by omega) (by omega), rotF_k g m hn.2 (x := m) (by omega) (by omega), rotF_k g m hn.2 (x := g 0 - 1 - m) (by omega) (by omega), rotF_k g m hn.2 (x := x) (by omega) (by omega)]
    rw [if_neg (show ¬ (m < m ∨ g 0 - 1 - m < m) by omega), if_neg (show ¬ (g 0 - 1 - m < m ∨ g 0 - 1 - (g 0 - 1 - m) < m) by omega)]
    by_cases e1 : x = g 0 - 1 - m
    · rw [if_pos e1, if_pos (by omega)]; congr 1; omega
    · rw [if_neg e1]
      by_cases e2 : x = m
      · rw [if_pos e2, if_pos (by omega)]; congr 1; omega
      · rw [if_neg e2]
        by_cases e3 : x < m ∨ g 0 - 1 - x < m
        · rw [if_pos e3, if_pos (by omega)]
        · rw [if_neg e3, if_neg (by omega)]
  · by_cases c2 : 22 ≤ c ∧ c < 22 + g 0
    · obtain ⟨x, rfl⟩ : ∃ x, c = 22 + x := ⟨c - 22, by omega⟩
      rw [swapF_w _ hm hk (by omega), rotF_w g (m + 1) hn.2 (by omega) (by omega), rotF_w g m hn.2 (x := m) (by omega) (by omega), rotF_w g m hn.2 (x := g 0 - 1 - m) (by omega) (by omega), rotF_w g m hn.2 (x := x) (by omega) (by omega)]
      rw [if_neg (show ¬ (m < m ∨ g 0 - 1 - m < m) by omega), if_neg (show ¬ (g 0 - 1 - m < m ∨ g 0 - 1 - (g 0 - 1 - m) < m) by omega)]
      by_cases e1 : x = g 0 - 1 - m
      · rw [if_pos e1, if_pos (by omega)]; congr 1; omega
      · rw [if_neg e1]
        by_cases e2 : x = m
        · rw [if_pos e2, if_pos (by omega)]; congr 1; omega
        · rw [if_neg e2]
          by_cases e3 : x < m ∨ g 0 - 1 - x < m
          · rw [if_pos e3, if_pos (by omega)]
          · rw [if_neg e3, if_neg (by omega)]
    · rw [rotF_mid g _ hn.2 (by omega)]
      unfold swapF
      rw [uq_ne _ _ (by omega), uq_ne _ _ (by omega), uq_ne _ _ (by omega), uq_ne _ _ (by omega), rotF_mid g _ hn.2 (by omega)]
theorem rot_end {g : Int → Int} (hn : 0 ≤ g 0 ∧ g 0 ≤ 16) {m : Int} (h1 : g 0 - 1 - m ≤ m) (h2 : m ≤ g 0) : rotF g m = rotF g (g 0) := by
  funext c
  by_cases c1 : 6 ≤ c ∧ c < 6 + g 0
  · obtain ⟨x, rfl⟩ : ∃ x, c = 6 + x := ⟨c - 6, by omega⟩
    rw [rotF_k g m hn.2 (by omega) (by omega), rotF_k g _ hn.2 (by omega) (by omega), if_pos (show x < g 0 ∨ g 0 - 1 - x < g 0 by omega)]
    by_cases e : x < m ∨ g 0 - 1 - x < m
    · rw [if_pos e]
    · rw [if_neg e]; congr 1; omega
  · by_cases c2 : 22 ≤ c ∧ c < 22 + g 0
    · obtain ⟨x, rfl⟩ : ∃ x, c = 22 + x := ⟨c - 22, by omega⟩
      rw [rotF_w g m hn.2 (by omega) (by omega), rotF_w g _ hn.2 (by omega) (by omega), if_pos (show x < g 0 ∨ g 0 - 1 - x < g 0 by omega)]
      by_cases e : x < m ∨ g 0 - 1 - x < m
      · rw [if_pos e]
      · rw [if_neg e]; congr 1; omega
    · rw [rotF_mid g _ hn.2 (by omega), rotF_mid g _ hn.2 (by omega)]
theorem wf_rev {g : Int → Int} (h : wf g) : wf (revF g) := by
  have h2 := wf_rot h (g 0)
  exact wf_free h2.1 h2.2.1 h2.2.2.1 h2.2.2.2.1 h2.2.2.2.2.2.2.1
/-- bits -/
theorem tb_or (c p q : Nat) : (c ||| 2 ^ p).testBit q = (c.testBit q || decide (p = q)) := by
  rw [Nat.testBit_or, Nat.testBit_two_pow]
theorem tb_xor (c p q : Nat) : (c ^^^ 2 ^ p).testBit q = (c.testBit q ^^ decide (p = q)) := by
  rw [Nat.testBit_xor, Nat.testBit_two_pow]
theorem or_lt {c p : Nat} (hc : c < 65536) (hp : p < 16) : c ||| 2 ^ p < 65536 := Nat.or_lt_two_pow (n := 16) hc (Nat.pow_lt_pow_right (by decide) hp)
theorem xor_lt {c p : Nat} (hc : c < 65536) (hp : p < 16) : c ^^^ 2 ^ p < 65536 := Nat.xor_lt_two_pow (n := 16) hc (Nat.pow_lt_pow_right (by decide) hp)
theorem wf_cuts {g : Int → Int} (h : wf g) {d : Nat} (hd : d < 65536) (h6 : ∀ p : Nat, d.testBit p = true → 1 ≤ p ∧ (p : Int) < g 0) (h9 : ∀ p : Int, 1 ≤ p → p < g 0 → d.testBit p.toNat = false → g (38 + p) = g (38 + (p - 1))) : wf (uq g 5 (d : Int)) := by
  obtain ⟨a1, a2, a3, a4, a5, a6, a7, a8, a9⟩ := h
  have f : ∀ c : Int, c ≠ 5 → uq g 5 (d : Int) c = g c := fun c hc => uq_ne _ _ hc
  have f5 : (uq g 5 (d : Int) 5).toNat = d := by rw [uq_eq]; rfl
  refine ⟨by rw [f 0 (by decide)]; exact a1, by rw [f 0 (by decide), f 1 (by decide)]; exact a2, by rw [f 2 (by decide)]; exact a3, by rw [f 4 (by decide)]; exact a4, by rw [uq_eq]; omega, by rw [f5, f 0 (by decide)]; exact h6, fun j h0 h1 => ?_, fun p h0 h1 => ?_, fun p h0 h1 h2 => ?_⟩
  · rw [f 0 (by decide)] at h1
    rw [f _ (by omega), f _ (by omega)]; exact a7 j h0 h1
  · rw [f _ (by omega)]; exact a8 p h0 h1
  · rw [f 0 (by decide)] at h1
    rw [f5] at h2
    rw [f _ (by omega), f _ (by omega)]; exact h9 p h0 h1 h2
theorem wf_cutOn {g : Int → Int} (h : wf g) {p : Int} (h0 : 1 ≤ p) (h1 : p < g 0) : wf (cutOnF g p) := by
  have a1 := h.1; have a5 := h.2.2.2.2.1; have a6 := h.2.2.2.2.2.1; have a9 := h.2.2.2.2.2.2.2.2
  refine wf_cuts h (or_lt (by omega) (by omega)) (fun q hq => ?_) (fun q q0 q1 hq => ?_)
  · rw [tb_or, Bool.or_eq_true, decide_eq_true_eq] at hq
    rcases hq with hq | hq
    · exact a6 q hq
    · omega
  · rw [tb_or, Bool.or_eq_false_iff] at hq
    exact a9 q q0 q1 hq.1
theorem cutOff_no {g : Int → Int} {p : Int} (hb : (g 5).toNat.testBit p.toNat = false) : cutOffF g p = g := by
  unfold cutOffF
  rw [hb]
  rfl
theorem wf_cutOff {g : Int → Int} (h : wf g) {p : Int} (h0 : 1 ≤ p) (h1 : p < g 0) : wf (cutOffF g p) := by
  have a1 := h.1; have a5 := h.2.2.2.2.1; have a6 := h.2.2.2.2.2.1; have a8 := h.2.2.2.2.2.2.2.1; have a9 := h.2.2.2.2.2.2.2.2
  cases hb : (g 5).toNat.testBit p.toNat with
  | false => rw [cutOff_no hb]; exact h
  | true =>
    have hoF : cutOffF g p = giveF (uncF g p) (runF (uncF g p) p) (g (38 + (p - 1))) := by unfold cutOffF; rw [hb]; rfl
    have ho := a8 (p - 1) (by omega) (by omega)
    have f : ∀ c : Int, c ≠ 5 → uncF g p c = g c := fun c hc => uq_ne _ _ hc
    have f5 : (uncF g p 5).toNat = (g 5).toNat ^^^ 2 ^ p.toNat := by rw [uncF, uq_eq]; rfl
    -- the row with the places from p on given: first the owners, then the cuts
    have hr : ∀ c : Int, giveF (uncF g p) (runF (uncF g p) p) (g (38 + (p - 1))) c = uq (giveF (uncF g p) (runF (uncF g p) p) (g (38 + (p - 1)))) 5 (((g 5).toNat ^^^ 2 ^ p.toNat : Nat) : Int) c := fun c => by
      by_cases e : c = 5
      · subst e; rw [uq_eq, giveF_lo _ _ _ (by decide), uncF, uq_eq]
      · rw [uq_ne _ _ e]
    have lo : ∀ c : Int, c < 38 → c ≠ 5 → giveF (uncF g p) (runF (uncF g p) p) (g (38 + (p - 1))) c = g c := fun c hc h5 => by rw [giveF_lo _ _ _ hc, f c h5]
    have l5 : (giveF (uncF g p) (runF (uncF g p) p) (g (38 + (p - 1))) 5).toNat = (g 5).toNat ^^^ 2 ^ p.toNat := by rw [giveF_lo _ _ _ (by decide), f5]
    have hx := xor_lt (c := (g 5).toNat) (p := p.toNat) (by omega) (by omega)
    rw [hoF]
    refine ⟨by rw [lo 0 (by decide) (by decide)]; exact a1, by rw [lo 0 (by decide) (by decide), lo 1 (by decide) (by decide)]; exact h.2.1, by rw [lo 2 (by decide) (by decide)]; exact h.2.2.1, by rw [lo 4 (by decide) (by decide)]; exact h.2.2.2.1, by rw [hr 5, uq_eq]; omega, fun q hq => ?_, fun j j0 j1 => ?_, fun q q0 q1 => ?_, fun q q0 q1 hq => ?_⟩
    · rw [lo 0 (by decide) (by decide)]
      rw [l5, tb_xor] at hq
      by_cases e : p.toNat = q
      · omega
      · rw [show decide (p.toNat = q) = false from decide_eq_false e, Bool.xor_false] at hq
        exact a6 q hq
    · rw [lo 0 (by decide) (by decide)] at j1
      rw [lo _ (by omega) (by omega), lo _ (by omega) (by omega)]
      exact h.2.2.2.2.2.2.1 j j0 j1
    · rw [giveF_o _ _ _ q0]
      have := a8 q q0 q1
      rw [f (38 + q) (by omega)]
      split <;> omega
    · rw [lo 0 (by decide) (by decide)] at q1
      rw [l5] at hq
      have hs := runF_same (g := uncF g p) q0 (by rw [f5]; exact hq)
      rw [giveF_o _ _ _ (by omega), giveF_o _ _ _ (by omega), f 0 (by decide), f _ (by omega), f _ (by omega), ← hs]
      by_cases e : runF (uncF g p) q = runF (uncF g p) p
      · rw [if_pos ⟨q1, e⟩, if_pos ⟨by omega, e⟩]
      · rw [if_neg (fun z => e z.2), if_neg (fun z => e z.2)]
        refine a9 q q0 q1 ?_
        rw [tb_xor] at hq
        by_cases e2 : p.toNat = q.toNat
        · exact absurd (show runF (uncF g p) q = runF (uncF g p) p by rw [show q = p by omega]) e
        · rw [show decide (p.toNat = q.toNat) = false from decide_eq_false e2, Bool.xor_false] at hq
          exact hq
theorem wf_addG {g : Int → Int} (h : wf g) (k w : Int) : wf (addG g k w) := by
  unfold addG
  split
  · rename_i hc; exact wf_add h hc.1 hc.2.1 hc.2.2
  · exact h
theorem wf_swapG {g : Int → Int} (h : wf g) (i j : Int) : wf (swapG g i j) := by
  unfold swapG
  split
  · rename_i hc; exact wf_swap h hc.1.1 hc.1.2 hc.2.1 hc.2.2
  · exact h
theorem wf_brkG {g : Int → Int} (h : wf g) (j : Int) : wf (brkG g j) := by
  unfold brkG
  split
  · rename_i hc; exact wf_brk h hc.1 hc.2
  · exact h
theorem wf_cutG {g : Int → Int} (h : wf g) (p b : Int) : wf (cutG g p b) := by
  unfold cutG cutF
  split
  · rename_i hc
    split
    · exact wf_cutOn h hc.1 hc.2
    · exact wf_cutOff h hc.1 hc.2
  · exact h
theorem wf_giveG {g : Int → Int} (h : wf g) (r o : Int) : wf (giveG g r o) := by
  unfold giveG
  split
  · rename_i hc; exact wf_give h r (by omega)
  · exact h
theorem wf_takeG {g : Int → Int} (h : wf g) (r : Int) : wf (takeG g r) := by
  unfold takeG
  split
  · exact wf_take h r
  · exact h
theorem wf_dealG {g : Int → Int} (h : wf g) (s : Int) : wf (dealG g s) := by
  unfold dealG
  split
  · exact wf_deal h s
  · exact h
theorem wf_setG {g : Int → Int} (h : wf g) (v : Int) : wf (setG g v) := by
  unfold setG
  split
  · rename_i hc; exact wf_set h (by omega)
  · exact h
/-- rows that are being copied, given, dealt -/
def likeF (g h : Int → Int) (p : Nat) : Int → Int := fun c => if (0 ≤ c ∧ c < 6) ∨ (6 ≤ c ∧ c < 6 + p) ∨ (22 ≤ c ∧ c < 22 + p) ∨ (38 ≤ c ∧ c < 38 + p) then h c else g c
theorem like_s (g h : Int → Int) (p : Nat) (hp : p < 16) : uq (uq (uq (likeF g h p) (6 + p) (h (6 + p))) (22 + p) (h (22 + p))) (38 + p) (h (38 + p)) = likeF g h (p + 1) := by
  funext c
  unfold uq likeF
  by_cases e1 : c = 38 + p
  · subst e1; rw [if_pos rfl, if_pos (by omega)]
  · by_cases e2 : c = 22 + p
    · subst e2; rw [if_neg e1, if_pos rfl, if_pos (by omega)]
    · by_cases e3 : c = 6 + p
      · subst e3; rw [if_neg e1, if_neg e2, if_pos rfl, if_pos (by omega)]
      · rw [if_neg e1, if_neg e2, if_neg e3]
        by_cases e : (0 ≤ c ∧ c < 6) ∨ (6 ≤ c ∧ c < 6 + p) ∨ (22 ≤ c ∧ c < 22 + p) ∨ (38 ≤ c ∧ c < 38 + p)
        · rw [if_pos e, if_pos (by omega)]
        · rw [if_neg e, if_neg (by omega)]
theorem vw_out (S : SS) (i : Nat) {c : Int} (h : c < 0 ∨ 54 ≤ c) : vw S i c = 0 := by
  unfold vw
  by_cases e : c < 0
  · rw [if_pos e]
  · rw [if_neg e, if_neg (by omega), if_neg (by omega), if_neg (by omega), if_neg (by omega)]
theorem like_16 (S : SS) (i k : Nat) : likeF (vw S i) (vw S k) 16 = vw S k := by
  funext c
  unfold likeF
  by_cases e : (0 ≤ c ∧ c < 6) ∨ (6 ≤ c ∧ c < 6 + ((16 : Nat) : Int)) ∨ (22 ≤ c ∧ c < 22 + ((16 : Nat) : Int)) ∨ (38 ≤ c ∧ c < 38 + ((16 : Nat) : Int))
  · rw [if_pos e]
  · rw [if_neg e, vw_out S i (by omega), vw_out S k (by omega)]
theorem vw_usf (S : SS) (i : Nat) (g : Int → Int) : vw (us S (4 * i) g) i = fun c => if 0 ≤ c ∧ c < 6 then g c else vw S i c := by
  funext c
  unfold vw
  rw [us_eq, us_a (show 4 * i + 1 ≠ 4 * i by omega), us_a (show 4 * i + 2 ≠ 4 * i by omega), us_a (show 4 * i + 3 ≠ 4 * i by omega)]
  by_cases e : c < 0
  · rw [if_pos e, if_neg (by omega), if_pos e]
  · by_cases e2 : c < 6
    · rw [if_neg e, if_pos e2, if_pos (show 0 ≤ c ∧ c < 6 by omega)]
    · rw [if_neg e, if_neg e2, if_neg (show ¬ (0 ≤ c ∧ c < 6) by omega), if_neg e, if_neg e2]
def givP (g : Int → Int) (r o : Int) (p : Nat) : Int → Int := fun c => if 38 ≤ c ∧ c < 38 + p ∧ runF g (c - 38) = r then o else g c
theorem givP_0 (g : Int → Int) (r o : Int) : givP g r o 0 = g := by
  funext c; unfold givP; rw [if_neg (by omega)]
theorem givP_t (g : Int → Int) {r o : Int} {p : Nat} (h : runF g p = r) : uq (givP g r o p) (38 + p) o = givP g r o (p + 1) := by
  funext c
  unfold uq givP
  by_cases e : c = 38 + p
  · subst e; rw [if_pos rfl, if_pos ⟨by omega, by omega, by rw [show 38 + (p : Int) - 38 = p by omega]; exact h⟩]
  · rw [if_neg e]
    by_cases e2 : 38 ≤ c ∧ c < 38 + p ∧ runF g (c - 38) = r
    · rw [if_pos e2, if_pos ⟨e2.1, by omega, e2.2.2⟩]
    · rw [if_neg e2, if_neg (fun z => e2 ⟨z.1, by omega, z.2.2⟩)]
theorem givP_f (g : Int → Int) {r o : Int} {p : Nat} (h : ¬ runF g p = r) : givP g r o p = givP g r o (p + 1) := by
  funext c
  unfold givP
  by_cases e2 : 38 ≤ c ∧ c < 38 + p ∧ runF g (c - 38) = r
  · rw [if_pos e2, if_pos ⟨e2.1, by omega, e2.2.2⟩]
  · rw [if_neg e2, if_neg (fun z => e2 ⟨z.1, by
      by_cases e : c = 38 + p
      · subst e; exact absurd (by have := z.2.2; rw [show 38 + (p : Int) - 38 = p by omega] at this; exact this) h
      · omega, z.2.2⟩)]
theorem givP_n (g : Int → Int) {r o : Int} {p : Nat} (h : (p : Int) = g 0) : givP g r o p = giveF g r o := by
  funext c; unfold givP giveF; rw [h]
def deaP (g : Int → Int) (s : Int) (p : Nat) : Int → Int := fun c => if 38 ≤ c ∧ c < 38 + p then (s + runF g (c - 38)) % 2 else g c
theorem deaP_0 (g : Int → Int) (s : Int) : deaP g s 0 = g := by
  funext c; unfold deaP; rw [if_neg (by omega)]
theorem deaP_s (g : Int → Int) (s : Int) (p : Nat) : uq (deaP g s p) (38 + p) ((s + runF g p) % 2) = deaP g s (p + 1) := by
  funext c
  unfold uq deaP
  by_cases e : c = 38 + p
  · subst e; rw [if_pos rfl, if_pos (by omega), show 38 + (p : Int) - 38 = p by omega]
  · rw [if_neg e]
    by_cases e2 : 38 ≤ c ∧ c < 38 + p
    · rw [if_pos e2, if_pos (by omega)]
    · rw [if_neg e2, if_neg (by omega)]
theorem deaP_n (g : Int → Int) {s : Int} {p : Nat} (h : (p : Int) = g 0) : deaP g s p = dealF g s := by
  funext c; unfold deaP dealF; rw [h]
theorem nI_m1 : iI (-1) = Int32.ofBitVec (BitVec.allOnes 32) := by decide
/-- a bit that is set is taken away -/
theorem clr_bit {c p : Int} (h0 : 0 ≤ c) (h1 : c < 65536) (p0 : 0 ≤ p) (p1 : p < 16) (hb : c.toNat.testBit p.toNat = true) : iI c &&& (iI (1 * 2 ^ p.toNat) ^^^ iI (-1)) = iI ((c.toNat ^^^ 2 ^ p.toNat : Nat) : Int) := by
  obtain ⟨n, rfl⟩ := Int.eq_ofNat_of_zero_le h0
  have e : (1 : Int) * 2 ^ p.toNat = ((2 ^ p.toNat : Nat) : Int) := by rw [Int.one_mul]; exact (Int.natCast_pow 2 _).symm
  have hb' : n.testBit p.toNat = true := hb
  rw [e, iI_nat, iI_nat, iI_nat, nI_m1]
  apply Int32.toBitVec_inj.1
  show BitVec.ofNat 32 n &&& (BitVec.ofNat 32 (2 ^ p.toNat) ^^^ BitVec.allOnes 32) = BitVec.ofNat 32 (n ^^^ 2 ^ p.toNat)
  apply BitVec.eq_of_getLsbD_eq
  intro q hq
  rw [BitVec.getLsbD_and, BitVec.getLsbD_xor, BitVec.getLsbD_ofNat, BitVec.getLsbD_ofNat, BitVec.getLsbD_ofNat, BitVec.getLsbD_allOnes, Nat.testBit_xor, Nat.testBit_two_pow]
  by_cases e3 : p.toNat = q
  · subst e3; simp [hq, hb']
  · simp [hq, e3]
/-- a bit that isn't set: nothing is taken away -/
theorem clr_bit0 {c p : Int} (h0 : 0 ≤ c) (h1 : c < 65536) (p0 : 0 ≤ p) (p1 : p < 16) (hb : c.toNat.testBit p.toNat = false) : iI c &&& (iI (1 * 2 ^ p.toNat) ^^^ iI (-1)) = iI c := by
  obtain ⟨n, rfl⟩ := Int.eq_ofNat_of_zero_le h0
  have e : (1 : Int) * 2 ^ p.toNat = ((2 ^ p.toNat : Nat) : Int) := by rw [Int.one_mul]; exact (Int.natCast_pow 2 _).symm
  have hb' : n.testBit p.toNat = false := hb
  rw [e, iI_nat, iI_nat, nI_m1]
  apply Int32.toBitVec_inj.1
  show BitVec.ofNat 32 n &&& (BitVec.ofNat 32 (2 ^ p.toNat) ^^^ BitVec.allOnes 32) = BitVec.ofNat 32 n
  apply BitVec.eq_of_getLsbD_eq
  intro q hq
  rw [BitVec.getLsbD_and, BitVec.getLsbD_xor, BitVec.getLsbD_ofNat, BitVec.getLsbD_ofNat, BitVec.getLsbD_allOnes, Nat.testBit_two_pow]
  by_cases e3 : p.toNat = q
  · subst e3; simp [hb']
  · simp [hq, e3]
theorem like_0 (S : SS) (i k : Nat) {G : Int → Int} (h : ∀ c : Int, 0 ≤ c → c < 6 → G c = S (4 * k) c) : vw (us S (4 * i) G) i = likeF (vw S i) (vw S k) 0 := by
  rw [vw_usf]
  funext c
  unfold likeF
  by_cases e : 0 ≤ c ∧ c < 6
  · rw [if_pos (Or.inl e), vw_f S k e.1 e.2, ← h c e.1 e.2]
    exact if_pos e
  · rw [if_neg (show ¬ ((0 ≤ c ∧ c < 6) ∨ (6 ≤ c ∧ c < 6 + ((0 : Nat) : Int)) ∨ (22 ≤ c ∧ c < 22 + ((0 : Nat) : Int)) ∨ (38 ≤ c ∧ c < 38 + ((0 : Nat) : Int))) by omega)]
    exact if_neg e
theorem six {P : Int → Prop} (h0 : P 0) (h1 : P 1) (h2 : P 2) (h3 : P 3) (h4 : P 4) (h5 : P 5) : ∀ c : Int, 0 ≤ c → c < 6 → P c := by
  intro c a b
  rcases (show c = 0 ∨ c = 1 ∨ c = 2 ∨ c = 3 ∨ c = 4 ∨ c = 5 by omega) with rfl | rfl | rfl | rfl | rfl | rfl <;> assumption
theorem new_0 (S : SS) (i : Nat) {G : Int → Int} (h : ∀ c : Int, 0 ≤ c → c < 6 → c ≠ 5 → G c = 0) : freeF (vw (us S (4 * i) G) i) = newF (vw S i) := by
  rw [vw_usf]
  funext c
  unfold newF freeF
  by_cases e5 : c = 5
  · subst e5; rfl
  · rw [if_neg e5]
    by_cases e : 0 ≤ c ∧ c < 6
    · rw [if_pos e, if_neg (show ¬ (38 ≤ c ∧ c < 54) by omega)]
      exact (if_pos e).trans (h c e.1 e.2 e5)
    · rw [if_neg e]
      by_cases e2 : 38 ≤ c ∧ c < 54
      · rw [if_pos e2, if_pos e2]
      · rw [if_neg e2, if_neg e2]
        exact if_neg e
