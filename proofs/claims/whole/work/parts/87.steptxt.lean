/-! the calls of the text, undo, the slots -/
theorem RR_t {S S2 : SS} (h : RR S) (hc : ∀ m : Nat, m < 82 → m ≠ 73 → m ≠ 74 → S2 m = S m) (h84 : S2 84 = S 84) (h86 : S2 86 = S 86) (h87 : S2 87 = S 87) (h88 : S2 88 = S 88) (h2 : S2 82 2 = S 82 2) (ht : R2 S2) : RR S2 := by
  obtain ⟨a, -, d, e, f⟩ := h
  refine ⟨?_, ht, R3_k d (by rw [hc 75 (by decide) (by decide) (by decide)]) (by rw [hc 75 (by decide) (by decide) (by decide)]) h2 h86 (fun m x y => hc m (by omega) (by omega) (by omega)), by rw [hc 78 (by decide) (by decide) (by decide)]; exact e, R5_k f (by rw [hc 80 (by decide) (by decide) (by decide)]) (by rw [hc 81 (by decide) (by decide) (by decide)]) h87 h88 (fun m x y => hc m (by omega) (by omega) (by omega))⟩
  rw [vw_eq (S := S) (i := 0) (fun m x y => hc m (by omega) (by omega) (by omega)), mw_eq (S := S) h84]
  exact a
section
variable {S S1 S2 : SS} {v w : Option Value}
theorem st_append (h : RR S) (c : Int) (h1 : wP (cd_len (S 73 0) c) (S 73 0 + 1) (fun S' => S' = us (us S 74 (uq (S 74) (S 73 0) c)) 73 (uq (S 73) 0 (S 73 0 + 1))) (fun S' => S' = S) v S1)
    (h2 : pV (.int (iI (if cd_append (S1 82 1) c = 0 then S1 82 1 + 1 else 0))) (fun S' => S' = if cd_append (S1 82 1) c = 0 then us (us S1 83 (uq (S1 83) (S1 82 1) c)) 82 (uq (uq (S1 82) 0 0) 1 (S1 82 1 + 1)) else us S1 82 (uq (S1 82) 0 (cd_append (S1 82 1) c))) w S2) : stp v w S2 := by
  obtain ⟨-, ⟨t1, t2, t3, t4⟩, -, h8, -⟩ := id h
  have hk : keep S S1 := wP_keep h1 (fun S' z m m8 _ => by rw [z, us_a (by omega), us_a (by omega)]) (fun S' z => q_keep (by rw [z]; exact q_id h8))
  have e82 : S1 82 = S 82 := hk 82 (by decide) (by decide)
  have ez : S1 82 1 = S 73 0 := by rw [e82]; exact t2.symm
  have ec : cd_append (S1 82 1) c = cd_len (S 73 0) c := by rw [ez]; unfold cd_append cd_len; (repeat' split) <;> omega
  have hr : 0 ≤ cd_len (S 73 0) c ∧ cd_len (S 73 0) c ≤ 3 := by unfold cd_len; (repeat' split) <;> omega
  obtain ⟨a, b⟩ := h2
  rw [ec, ez] at a b
  rcases h1.2 with ⟨c0, T, rfl, rfl⟩ | ⟨cn, rfl⟩
  · rw [if_pos c0] at a b
    have hl : S 73 0 < 120 ∧ 0 ≤ c ∧ c ≤ 255 := by unfold cd_len at c0; (repeat' split at c0) <;> omega
    refine ⟨_, S 73 0 + 1, S 73 0 + 1, h1.1, a, ?_, ?_, hr, fun _ => ⟨?_, rfl⟩⟩
    · subst b
      refine RR_t h (fun m m8 m3 m4 => ?_) ?_ ?_ ?_ ?_ ?_ ⟨?_, ?_, ?_, fun j j0 j1 => ?_⟩
      · rw [us_a (by omega), us_a (by omega), us_a (by omega), us_a m3, us_a m4]
      · rw [us_a (by decide), us_a (by decide), us_a (by decide), us_a (by decide), us_a (by decide)]
      · rw [us_a (by decide), us_a (by decide), us_a (by decide), us_a (by decide), us_a (by decide)]
      · rw [us_a (by decide), us_a (by decide), us_a (by decide), us_a (by decide), us_a (by decide)]
      · rw [us_a (by decide), us_a (by decide), us_a (by decide), us_a (by decide), us_a (by decide)]
      · rw [us_eq, uq_ne _ _ (by decide), uq_ne _ _ (by decide)]; exact congrFun e82 2
      · rw [us_a (show 74 ≠ 82 by decide), us_a (show 74 ≠ 83 by decide), us_a (show 74 ≠ 91 by decide), us_a (show 74 ≠ 73 by decide), us_eq, us_a (show 83 ≠ 82 by decide), us_eq, us_a (show 83 ≠ 91 by decide), us_a (show 83 ≠ 73 by decide), us_a (show 83 ≠ 74 by decide), t1]
      · rw [us_a (show 73 ≠ 82 by decide), us_a (show 73 ≠ 83 by decide), us_a (show 73 ≠ 91 by decide), us_eq, uq_eq, us_eq, uq_eq]
      · rw [us_a (show 73 ≠ 82 by decide), us_a (show 73 ≠ 83 by decide), us_a (show 73 ≠ 91 by decide), us_eq, uq_eq]; omega
      · rw [us_a (show 74 ≠ 82 by decide), us_a (show 74 ≠ 83 by decide), us_a (show 74 ≠ 91 by decide), us_a (show 74 ≠ 73 by decide), us_eq]
        by_cases hj : j = S 73 0
        · rw [hj, uq_eq]; exact hl.2
        · rw [uq_ne _ _ hj]; exact t4 j j0 j1
    · subst b; rw [us_eq, uq_ne _ _ (by decide), uq_eq, c0]
    · subst b; rw [us_a (by decide), us_a (by decide), us_eq, uq_eq]
  · rw [if_neg cn] at a b
    refine ⟨_, 0, 0, h1.1, a, ?_, ?_, hr, fun z => absurd z cn⟩
    · subst b; exact RR_q h (q_id h8) (qM_c _ _).1
    · subst b; exact (qM_c _ _).2
theorem stq_clearText (h : RR S) (h1 : pV (.int (iI (S 73 0))) (fun S' => S' = us S 73 (uq (S 73) 0 0)) v S1) (h2 : pV (.int (iI (S1 82 1))) (fun S' => S' = us S1 82 (uq (uq (S1 82) 0 0) 1 0)) w S2) : stq v w S2 := by
  obtain ⟨-, ⟨t1, t2, t3, t4⟩, -, h8, -⟩ := id h
  obtain ⟨a, rfl⟩ := h1
  obtain ⟨b, rfl⟩ := h2
  have e82 : us S 73 (uq (S 73) 0 0) 82 = S 82 := us_a (by decide)
  refine ⟨S 73 0, a, by rw [b, e82, t2], RR_t h (fun m m8 m3 m4 => ?_) ?_ ?_ ?_ ?_ ?_ ⟨?_, ?_, ?_, fun j j0 j1 => ?_⟩⟩
  · rw [us_a (by omega), us_a m3]
  · rw [us_a (by decide), us_a (by decide)]
  · rw [us_a (by decide), us_a (by decide)]
  · rw [us_a (by decide), us_a (by decide)]
  · rw [us_a (by decide), us_a (by decide)]
  · rw [us_eq, uq_ne _ _ (by decide), uq_ne _ _ (by decide), e82]
  · rw [us_a (show 74 ≠ 82 by decide), us_a (show 74 ≠ 73 by decide), us_a (show 83 ≠ 82 by decide), us_a (show 83 ≠ 73 by decide), t1]
  · rw [us_a (show 73 ≠ 82 by decide), us_eq, uq_eq, us_eq, uq_eq]
  · rw [us_a (show 73 ≠ 82 by decide), us_eq, uq_eq]; exact ⟨by decide, by decide⟩
  · rw [us_a (show 74 ≠ 82 by decide), us_a (show 74 ≠ 73 by decide)]; exact t4 j j0 j1
theorem stq_errorPosition (h : RR S) (h1 : pV (.int (iI (errF (S 74) (S 73 0)))) (fun S' => S' = S) v S1) (h2 : pV (.int (iI (errF (S1 83) (S1 82 1)))) (fun S' => tQ (us S1 82 (uq (S1 82) 0 0)) S') w S2) : stq v w S2 := by
  obtain ⟨-, ⟨t1, t2, t3, t4⟩, -, h8, -⟩ := id h
  obtain ⟨a, rfl⟩ := h1
  obtain ⟨b, d, f⟩ := h2
  refine ⟨_, a, by rw [b, ← t1, ← t2], RR_q h (q_id h8) ⟨fun m m2 m5 _ _ => by rw [f m m5 m2, us_a m2], ?_, ?_⟩⟩
  · rw [d 1 (by decide) (by decide), us_eq, uq_ne _ _ (by decide)]
  · rw [d 2 (by decide) (by decide), us_eq, uq_ne _ _ (by decide)]
theorem st_load (h : RR S) (h1 : wP (cd_e (errF (S 74) (S 73 0))) (rtB (S 74) (S 73 0) 120 1 (newF (vw S 0))) (fun S' => vw S' 0 = rtG (S 74) (S 73 0) 120 1 (newF (vw S 0)) ∧ (S' 75 0 = S 75 0 ∧ S' 75 1 = 0) ∧ (S' 80 0 = 0 ∧ S' 81 0 = 0) ∧ ∀ m : Nat, 4 ≤ m → m ≠ 75 → m ≠ 80 → m ≠ 81 → S' m = S m) (fun S' => S' = S) v S1)
    (h2 : pV (.int (iI (if errF (S1 83) (S1 82 1) = -1 then ldB (S1 83) (S1 82 1) else 0))) (fun S' => (errF (S1 83) (S1 82 1) ≠ -1 → S' 82 0 = 1 ∧ (∀ c : Int, c ≠ 0 → c ≠ 3 → c ≠ 4 → S' 82 c = S1 82 c) ∧ ∀ m : Nat, m ≠ 85 → m ≠ 82 → S' m = S1 m) ∧ (errF (S1 83) (S1 82 1) = -1 → mw S' 84 = ldG (S1 83) (S1 82 1) ∧ (S' 82 0 = 0 ∧ S' 82 2 = 0 ∧ S' 82 1 = S1 82 1) ∧ (S' 88 0 = 0 ∧ S' 88 1 = 0) ∧ ∀ m : Nat, m ≠ 82 → m ≠ 84 → m ≠ 85 → m ≠ 88 → S' m = S1 m)) w S2) : stp v w S2 := by
  obtain ⟨-, ⟨t1, t2, t3, t4⟩, ⟨hnx, -⟩, h8, -⟩ := id h
  have hk : keep S S1 := wP_keep h1 (fun S' z m m8 _ => z.2.2.2 m (by omega) (by omega) (by omega) (by omega)) (fun S' z => q_keep (by rw [z]; exact q_id h8))
  have e82 : S1 82 = S 82 := hk 82 (by decide) (by decide)
  have e83 : S1 83 = S 74 := (hk 83 (by decide) (by decide)).trans t1.symm
  have ez : S1 82 1 = S 73 0 := by rw [e82]; exact t2.symm
  have hr : 0 ≤ cd_e (errF (S 74) (S 73 0)) ∧ cd_e (errF (S 74) (S 73 0)) ≤ 3 := by unfold cd_e; split <;> omega
  have ec : cd_e (errF (S 74) (S 73 0)) = 0 ↔ errF (S 74) (S 73 0) = -1 := by unfold cd_e; split <;> omega
  obtain ⟨a, b, d⟩ := h2
  rw [e83, ez] at a b d
  rcases h1.2 with ⟨c0, T, ⟨p1, p2, p3, p4⟩, rfl⟩ | ⟨cn, eS⟩
  · have hE := ec.mp c0
    rw [if_pos hE] at a
    obtain ⟨d1, d2, d3, d4⟩ := d hE
    obtain ⟨l1, l2⟩ := eqs_ld (S 74) (S 73 0) (vw S 0) hE
    have kk : ∀ m : Nat, 4 ≤ m → m < 82 → m ≠ 75 → m ≠ 80 → m ≠ 81 → S2 m = S m := fun m m4 m8 m5 m0 m1 => by
      rw [d4 m (by omega) (by omega) (by omega) (by omega), us_a (by omega)]
      exact p4 m m4 m5 m0 m1
    have k75 : S2 75 = T 75 := by rw [d4 75 (by decide) (by decide) (by decide) (by decide), us_a (by decide)]
    refine ⟨_, rtB (S 74) (S 73 0) 120 1 (newF (vw S 0)), _, h1.1, a, ⟨?_, ?_, ⟨?_, ?_, ?_, fun k hk9 => ?_⟩, ?_, ⟨?_, ?_, ?_, ?_, fun z => ?_, fun z => ?_⟩⟩, ?_, hr, fun _ => ⟨?_, l2.symm⟩⟩
    · rw [d1, vw_eq (S := T) (i := 0) (fun m x y => by rw [d4 m (by omega) (by omega) (by omega) (by omega), us_a (by omega)]), p1]
      exact ⟨l1, wf_rtG _ _ _ _ (wf_new _), wf_rtG _ _ _ _ wf_newM⟩
    · exact R2_k ⟨t1, t2, t3, t4⟩ (by rw [kk 73 (by decide) (by decide) (by decide) (by decide) (by decide)]) (kk 74 (by decide) (by decide) (by decide) (by decide) (by decide)) (by rw [d2.2.2]; exact t2) (by rw [d4 83 (by decide) (by decide) (by decide) (by decide)]; exact hk 83 (by decide) (by decide))
    · rw [k75, p2.1]; exact hnx
    · rw [k75, p2.2]; exact ⟨by decide, by decide⟩
    · rw [k75, p2.2]; exact d2.2.1
    · rw [k75, p2.2] at hk9; omega
    · rw [kk 78 (by decide) (by decide) (by decide) (by decide) (by decide)]; exact h8
    · rw [d4 80 (by decide) (by decide) (by decide) (by decide), us_a (by decide)]; exact Or.inl p3.1
    · rw [d4 81 (by decide) (by decide) (by decide) (by decide), us_a (by decide)]; exact Or.inl p3.2
    · rw [d4 80 (by decide) (by decide) (by decide) (by decide), us_a (by decide), p3.1]; exact d3.1
    · rw [d4 81 (by decide) (by decide) (by decide) (by decide), us_a (by decide), p3.2]; exact d3.2
    · rw [d4 80 (by decide) (by decide) (by decide) (by decide), us_a (by decide), p3.1] at z; exact absurd z (by decide)
    · rw [d4 81 (by decide) (by decide) (by decide) (by decide), us_a (by decide), p3.2] at z; exact absurd z (by decide)
    · rw [d2.1, c0]
    · rw [d4 91 (by decide) (by decide) (by decide) (by decide), us_eq, uq_eq]
  · have hE : ¬ errF (S 74) (S 73 0) = -1 := fun z => cn (ec.mpr z)
    rw [if_neg hE] at a
    obtain ⟨d1, d2, d3⟩ := b hE
    have c1 : cd_e (errF (S 74) (S 73 0)) = 1 := if_neg hE
    refine ⟨_, 0, 0, h1.1, a, RR_q h (by rw [eS]; exact q_id h8) ⟨fun m m2 m5 _ _ => d3 m m5 m2, d2 1 (by decide) (by decide) (by decide), d2 2 (by decide) (by decide) (by decide)⟩, by rw [d1, c1], hr, fun z => absurd z cn⟩
end
