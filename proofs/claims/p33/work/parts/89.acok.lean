/-! WHAT AN ACT LEAVES -/
section
variable {g : Int → Int}
theorem n_free (g : Int → Int) : freeF g 0 = g 0 := rfl
theorem n_add (hw : wf g) (k w : Int) : g 0 ≤ addG g k w 0 ∧ addG g k w 0 ≤ g 0 + 1 := by
  unfold addG
  split
  · have e : addF g k w 0 = g 0 + 1 := by
      show uq (uq (uq g (6 + g 0) k) (22 + g 0) w) 0 (g 0 + 1) 0 = _
      exact uq_eq _ _ _
    rw [e]; omega
  · omega
theorem n_swap (i j : Int) : swapG g i j 0 = g 0 := by
  unfold swapG
  split
  · next h =>
    unfold swapF
    rw [uq_ne _ _ (by omega), uq_ne _ _ (by omega), uq_ne _ _ (by omega), uq_ne _ _ (by omega)]
  · rfl
theorem n_brk (j : Int) : brkG g j 0 = g 0 := by
  unfold brkG
  split
  · exact uq_ne _ _ (by decide)
  · rfl
theorem n_rev (hm : 0 ≤ g 0) : revF g 0 = g 0 := by
  show rotF g (g 0) 0 = g 0
  unfold rotF
  rw [if_neg (by omega), if_neg (by omega)]
theorem n_give0 (r o : Int) : giveF g r o 0 = g 0 := if_neg (by omega)
theorem n_cut (p b : Int) : cutG g p b 0 = g 0 := by
  unfold cutG
  split
  · unfold cutF
    split
    · exact uq_ne _ _ (by decide)
    · unfold cutOffF
      split
      · rw [n_give0]; exact uq_ne _ _ (by decide)
      · rfl
  · rfl
theorem n_give (r o : Int) : giveG g r o 0 = g 0 := by
  unfold giveG
  split
  · exact n_give0 r o
  · rfl
theorem n_takeF (r : Int) : takeF g r 0 = g 0 := by
  unfold takeF
  rw [uq_ne _ _ (by decide)]
  exact n_give0 r _
theorem n_take (r : Int) : takeM g r 0 = g 0 := by
  unfold takeM
  split
  · exact n_takeF r
  · exact uq_ne _ _ (by decide)
theorem n_deal (s : Int) : dealG g s 0 = g 0 := by
  unfold dealG
  split
  · exact if_neg (by omega)
  · rfl
theorem n_set (v : Int) : setG g v 0 = g 0 := by
  unfold setG
  split
  · exact uq_ne _ _ (by decide)
  · rfl
theorem n_ls (t : Int → Int) : ∀ n : Nat, lsT g t n 0 = g 0
  | 0 => rfl
  | n + 1 => by
    rw [lsT, n_cut]
    exact n_ls t n
end
/-- a picture that the law's objects can have -/
def OK (P : PT) : Prop := WF0 P ∧ CH 4 P
theorem ok_push {P : PT} (h : OK P) {G : Int → Int} (hG : wf G) (h0 : pG P 0 ≤ G 0) (h1 : G 0 ≤ pG P 0 + 1) : OK (pPush P G) := ⟨WF_push h.1 hG, CH_push h.1 h.2 h0 h1⟩
theorem ok_push0 {P : PT} (h : OK P) {G : Int → Int} (hG : wf G) (h0 : G 0 = pG P 0) : OK (pPush P G) := ok_push h hG (by omega) (by omega)
theorem ok_if {P Q : PT} {c : Prop} [Decidable c] (h : OK P) (hq : c → OK Q) : OK (if c then Q else P) := by
  split
  · next hc => exact hq hc
  · exact h
theorem wf_revG {g : Int → Int} (h : wf g) : wf (revF g) := wf_rev h
theorem ok_undo {P : PT} (h : OK P) (hk : 0 < pK P) (hn : 4 ≤ pG (pUndo P) 0) : OK (pUndo P) := ⟨WF_undo h.1 hk, CH_undo h.1 h.2 hn⟩
/-- a change, undone -/
theorem ok_un {P : PT} (h : OK P) {G : Int → Int} (hG : wf G) (h0 : G 0 = pG P 0) : OK (pUndo (pPush P G)) := by
  refine ok_undo (ok_push0 h hG h0) (pK_push P G h.1) ?_
  rw [un_g P G h.1]
  exact h.2.1
theorem ac_ok {P : PT} (h : OK P) {x : Int} (hx : 0 ≤ x) : OK (acF P x).2 := by
  have hw := h.1.1
  have hn : 4 ≤ pG P 0 := h.2.1
  have d2 : ∀ a : Int, a % 2 = 0 ∨ a % 2 = 1 := fun a => by omega
  unfold acF
  split
  · exact ok_if h (fun _ => ok_push h (wf_addG hw _ _) (n_add hw _ _).1 (n_add hw _ _).2)
  split
  · exact ok_if h (fun _ => ok_push0 h (wf_cutG hw _ _) (n_cut _ _))
  split
  · exact ok_if h (fun _ => ok_push0 h (wf_giveG hw _ _) (n_give _ _))
  split
  · exact ok_if h (fun _ => ok_push0 h (wf_takeM hw _) (n_take _))
  split
  · split
    · exact ok_if h (fun _ => ok_push0 h (wf_dealG hw _) (n_deal _))
    · exact ok_if h (fun _ => ok_push0 h (wf_dealG (wf_lsT hw _ _) _) ((n_deal _).trans (n_ls _ _)))
  split
  · split
    · exact ok_if h (fun _ => ok_push0 h (wf_brkG hw _) (n_brk _))
    · exact ok_push0 h (wf_rev hw) (n_rev (by omega))
  split
  · exact ok_if h (fun _ => ok_push0 h (wf_swapG hw _ _) (n_swap _ _))
  split
  · exact ok_if h (fun _ => ok_push0 h (wf_setG hw _) (n_set _))
  split
  · split
    · exact ok_if h (fun _ => ⟨WF_save h.1 _, CH_save h.2 (d2 _)⟩)
    · refine ok_if h (fun hc => ⟨WF_rest h.1 (d2 _), CH_rest h.2 (d2 _) ?_⟩)
      have hf := h.1.2.2.2.1
      have hf2 := h.1.2.2.2.2.1
      have hc2 : ¬ fl P (x / 16 / 2 % 2) = 0 := fun z => by
        unfold cd_rest at hc
        rw [if_pos (by omega), if_pos z] at hc
        exact absurd hc (by decide)
      unfold fl at hc2
      split at hc2
      · next e => rw [if_pos e]; omega
      · next e => rw [if_neg e]; omega
  split
  · exact h
  · next h5 =>
    refine ok_if h (fun hc => ?_)
    have hk : 0 < pK P := by
      have := h.1.2.2.1
      unfold cd_undo at hc
      split at hc <;> omega
    have hj := h.2.2.2.2 0 (by omega)
    have e : jc P 1 = pG (pUndo P) 0 := (jc_undo h.1 0).symm
    have e0 : jc P 0 = pG P 0 := rfl
    rw [e, e0] at hj
    exact ok_undo h hk (by omega)
