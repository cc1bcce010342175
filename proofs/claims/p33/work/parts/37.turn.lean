/-! SIMULATE: the turns -/
def trR (g : Int → Int) (h q : Int) : Int → Int :=
  if h < 4 then addG g (q % 4) (1 + q / 4 % 9) else if h = 14 ∧ q / 16 % 4 = 0 then brkG g (q % 16) else if h = 14 then swapG g (q % 16) (q / 64 % 16) else if q / 2 % 2 = 0 then setG g (q % 2) else revF g
def trU (g : Int → Int) (h q : Int) : Int → Int :=
  if h < 8 then cutG g (1 + q % 15) (if q / 16 % 4 = 0 then 0 else 1) else if h = 13 then dealG g (q % 2) else if 0 ≤ q % 16 ∧ q % 16 < runsF g then (if h < 10 then giveG g (q % 16) (q / 16 % 3 - 1) else takeM g (q % 16)) else g
theorem wf_takeM {g : Int → Int} (h : wf g) (r : Int) : wf (takeM g r) := by
  unfold takeM
  split
  · exact wf_take h r
  · obtain ⟨a1, a2, a3, a4, a5, a6, a7, a8, a9⟩ := h
    have f : ∀ c : Int, c ≠ 3 → uq g 3 (g 3 + 1) c = g c := fun c hc => uq_ne _ _ hc
    refine ⟨by rw [f 0 (by decide)]; exact a1, by rw [f 0 (by decide), f 1 (by decide)]; exact a2, by rw [f 2 (by decide)]; exact a3, by rw [f 4 (by decide)]; exact a4, by rw [f 5 (by decide)]; exact a5, by rw [f 5 (by decide), f 0 (by decide)]; exact a6, fun j h0 h1 => ?_, fun p h0 h1 => ?_, fun p h0 h1 h2 => ?_⟩
    · rw [f 0 (by decide)] at h1
      rw [f _ (by omega), f _ (by omega)]; exact a7 j h0 h1
    · rw [f _ (by omega)]; exact a8 p h0 h1
    · rw [f 0 (by decide)] at h1
      rw [f 5 (by decide)] at h2
      rw [f _ (by omega), f _ (by omega)]; exact a9 p h0 h1 h2
theorem wf_trR {g : Int → Int} (hw : wf g) (h q : Int) : wf (trR g h q) := by
  unfold trR
  split
  · exact wf_addG hw _ _
  · split
    · exact wf_brkG hw _
    · split
      · exact wf_swapG hw _ _
      · split
        · exact wf_setG hw _
        · exact wf_rev hw
theorem wf_trU {g : Int → Int} (hw : wf g) (h q : Int) : wf (trU g h q) := by
  unfold trU
  split
  · exact wf_cutG hw _ _
  · split
    · exact wf_dealG hw _
    · split
      · split
        · exact wf_giveG hw _ _
        · exact wf_takeM hw _
      · exact hw
