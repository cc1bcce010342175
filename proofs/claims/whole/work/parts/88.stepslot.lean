/-! undo, and the slots -/
theorem mw_cp1 (g : Int → Int) (S : SS) (a : Int) (c : Int) (h : 0 ≤ c ∧ c < 54) : cpF g (S 86) a 0 54 c = S 86 (a + c) := by
  rw [cpF, if_pos (by omega), Int.sub_zero]
section
variable {S S1 S2 : SS} {v w : Option Value}
theorem st_undo (h : RR S) (h1 : wP (cd_undo (S 75 1)) (S 75 1 - 1) (fun S' => tbP S S') (fun S' => S' = S) v S1) (h2 : pU S1 (cd_undo (S1 82 2)) (S1 82 2 - 1) (unU S1) w S2) : stp v w S2 := by
  obtain ⟨hg, hT, ⟨d1, d2, d3, d4⟩, h8, h5⟩ := id h
  have hk : keep S S1 := wP_keep h1 (fun S' z m m8 _ => z.2.2 m (by omega) (by omega)) (fun S' z => q_keep (by rw [z]; exact q_id h8))
  have e82 : S1 82 = S 82 := hk 82 (by decide) (by decide)
  have ea : S1 82 2 = S 75 1 := by rw [e82]; exact d3
  obtain ⟨a, b⟩ := h2
  rw [ea] at a b
  have hr : 0 ≤ cd_undo (S 75 1) ∧ cd_undo (S 75 1) ≤ 3 := by unfold cd_undo; split <;> omega
  rcases h1.2 with ⟨c0, T, ⟨p1, p2, p3⟩, rfl⟩ | ⟨cn, eS⟩
  · have hct : 1 ≤ S 75 1 := by unfold cd_undo at c0; split at c0 <;> omega
    rw [if_pos c0] at a b
    have u82 : S2 82 = uq (uq (S 82) 0 0) 2 (S 75 1 - 1) := by
      rw [b, unU, us_eq, us_a (show 82 ≠ 91 by decide), p3 82 (by decide) (by decide), d3]
    have u84 : S2 84 = cpF (S 84) (S 86) (54 * (S 75 1 - 1)) 0 54 := by
      rw [b, unU, us_a (show 84 ≠ 82 by decide), us_eq, us_a (show 84 ≠ 91 by decide), us_a (show 86 ≠ 91 by decide), us_a (show 82 ≠ 91 by decide), p3 84 (by decide) (by decide), p3 86 (by decide) (by decide), p3 82 (by decide) (by decide), d3]
    have uo : ∀ m : Nat, m ≠ 82 → m ≠ 84 → m ≠ 91 → S2 m = T m := fun m x y z => by rw [b, unU, us_a x, us_a y, us_a z]
    have kk : ∀ m : Nat, 4 ≤ m → m ≠ 75 → m ≠ 82 → m ≠ 84 → m ≠ 91 → S2 m = S m := fun m m4 m5 x y z => (uo m x y z).trans (p3 m m5 m4)
    have hL : hxL (S 75 0) = ((hix (S 75 0) 0 : Nat) : Int) := by unfold hxL hix; split <;> omega
    have hL2 : 0 ≤ hxL (S 75 0) ∧ hxL (S 75 0) < 14 := by unfold hxL; split <;> omega
    have k750 : S2 75 0 = hxL (S 75 0) := by rw [uo 75 (by decide) (by decide) (by decide)]; exact p2.1
    have k751 : S2 75 1 = S 75 1 - 1 := by rw [uo 75 (by decide) (by decide) (by decide)]; exact p2.2
    refine ⟨_, S 75 1 - 1, _, h1.1, a, ⟨?_, ?_, ⟨?_, ?_, ?_, fun k hk9 => ?_⟩, ?_, ?_⟩, ?_, hr, fun _ => ⟨?_, rfl⟩⟩
    · have h0 := d4 0 (by omega)
      rw [vw_eq (S := T) (i := 0) (fun m x y => uo m (by omega) (by omega) (by omega)), p1, hL]
      have em : mw S2 84 = dwR S (S 75 1 - 1 - ((0 : Nat) : Int)) := by
        funext c
        unfold mw dwR
        by_cases hc : 0 ≤ c ∧ c < 54
        · rw [if_pos hc, if_pos hc, u84, mw_cp1 _ _ _ _ hc]; exact congrArg _ (by omega)
        · rw [if_neg hc, if_neg hc]
      rw [em]
      exact h0
    · exact R2_k hT (by rw [kk 73 (by decide) (by decide) (by decide) (by decide) (by decide)]) (kk 74 (by decide) (by decide) (by decide) (by decide) (by decide)) (by rw [u82, uq_ne _ _ (by decide), uq_ne _ _ (by decide)]) (kk 83 (by decide) (by decide) (by decide) (by decide) (by decide))
    · rw [k750]; exact hL2
    · rw [k751]; omega
    · rw [k751, u82, uq_eq]
    · rw [k751] at hk9 ⊢
      rw [k750]
      have h0 := d4 (k + 1) (by omega)
      have e1 : hix (hxL (S 75 0)) k = hix (S 75 0) (k + 1) := by unfold hix hxL; split <;> omega
      have hx : hix (S 75 0) (k + 1) < 14 := by unfold hix; omega
      rw [e1, vw_eq (S := S) (fun m x y => kk m (by omega) (by omega) (by omega) (by omega) (by omega)), dw_eq (S := S) (kk 86 (by decide) (by decide) (by decide) (by decide) (by decide)), show S 75 1 - 1 - 1 - (k : Int) = S 75 1 - 1 - ((k + 1 : Nat) : Int) by omega]
      exact h0
    · rw [kk 78 (by decide) (by decide) (by decide) (by decide) (by decide)]; exact h8
    · exact R5_k h5 (by rw [kk 80 (by decide) (by decide) (by decide) (by decide) (by decide)]) (by rw [kk 81 (by decide) (by decide) (by decide) (by decide) (by decide)]) (kk 87 (by decide) (by decide) (by decide) (by decide) (by decide)) (kk 88 (by decide) (by decide) (by decide) (by decide) (by decide)) (fun m x y => kk m (by omega) (by omega) (by omega) (by omega) (by omega))
    · rw [u82, uq_ne _ _ (by decide), uq_eq, c0]
    · rw [b, unU, us_a (by decide), us_a (by decide), us_eq, uq_eq]
  · rw [if_neg cn] at a b
    refine ⟨_, 0, 0, h1.1, a, ?_, ?_, hr, fun z => absurd z cn⟩
    · rw [b]; exact RR_q h (by rw [eS]; exact q_id h8) (qM_c _ _).1
    · rw [b]; exact (qM_c _ _).2
/-- a slot, by its number -/
theorem st_save (h : RR S) (s : Int) (h1 : wP (cd_01 s) (S (4 * 0) 0) (fun S' => vw S' (2 + s.toNat) = vw S 0 ∧ S' (80 + s.toNat) 0 = 1 ∧ ∀ m : Nat, (m < 4 * (2 + s.toNat) ∨ 4 * (2 + s.toNat) + 4 ≤ m) → m ≠ 80 + s.toNat → S' m = S m) (fun S' => S' = S) v S1) (h2 : pU S1 (cd_01 s) (S1 84 0) (saU S1 s) w S2) : stp v w S2 := by
  obtain ⟨hg, hT, h3, h8, h5⟩ := id h
  have hr : 0 ≤ cd_01 s ∧ cd_01 s ≤ 3 := by unfold cd_01; split <;> omega
  obtain ⟨a, b⟩ := h2
  rcases h1.2 with ⟨c0, T, ⟨p1, p2, p3⟩, rfl⟩ | ⟨cn, eS⟩
  · have hs : s = 0 ∨ s = 1 := by unfold cd_01 at c0; split at c0 <;> omega
    rw [if_pos c0] at a b
    have k8 : ∀ m : Nat, 82 ≤ m → T m = S m := fun m x => p3 m (by omega) (by omega)
    have u87 : S2 87 = cpF (S 87) (S 84) 0 (54 * s) 54 := by
      rw [b, saU, us_a (show 87 ≠ 88 by decide), us_eq, us_a (show 87 ≠ 91 by decide), us_a (show 84 ≠ 91 by decide), k8 87 (by decide), k8 84 (by decide)]
    have u88 : S2 88 = uq (S 88) s 1 := by
      rw [b, saU, us_eq, us_a (show 88 ≠ 91 by decide), k8 88 (by decide)]
    have u82 : S2 82 = uq (S 82) 0 0 := by
      rw [b, saU, us_a (show 82 ≠ 88 by decide), us_a (show 82 ≠ 87 by decide), us_eq, us_a (show 82 ≠ 91 by decide), k8 82 (by decide)]
    have uo : ∀ m : Nat, m ≠ 82 → m ≠ 87 → m ≠ 88 → m ≠ 91 → S2 m = T m := fun m x y z u => by rw [b, saU, us_a z, us_a y, us_a x, us_a u]
    have kk : ∀ m : Nat, (m < 4 * (2 + s.toNat) ∨ 4 * (2 + s.toNat) + 4 ≤ m) → m ≠ 80 + s.toNat → m ≠ 82 → m ≠ 87 → m ≠ 88 → m ≠ 91 → S2 m = S m := fun m x1 x2 x3 x4 x5 x6 => (uo m x3 x4 x5 x6).trans (p3 m x1 x2)
    have hv : vw S2 (2 + s.toNat) = vw S 0 := by rw [vw_eq (S := T) (fun m x y => uo m (by omega) (by omega) (by omega) (by omega))]; exact p1
    have hf : S2 (80 + s.toNat) 0 = 1 := by rw [uo _ (by omega) (by omega) (by omega) (by omega)]; exact p2
    have hkw : kwR S2 s = mw S 84 := by
      funext c
      unfold kwR mw
      by_cases hc : 0 ≤ c ∧ c < 54
      · rw [if_pos hc, if_pos hc, u87, cpF, if_pos (by omega)]; exact congrArg _ (by omega)
      · rw [if_neg hc, if_neg hc]
    have hko : ∀ j : Int, (j = 0 ∨ j = 1) → j ≠ s → kwR S2 j = kwR S j := fun j hj hn => by
      funext c
      unfold kwR
      by_cases hc : 0 ≤ c ∧ c < 54
      · rw [if_pos hc, if_pos hc, u87, cpF, if_neg (by omega)]
      · rw [if_neg hc, if_neg hc]
    obtain ⟨f1, f2, f3, f4, f5, f6⟩ := h5
    refine ⟨_, S (4 * 0) 0, _, h1.1, a, ⟨?_, ?_, ?_, ?_, ?_⟩, ?_, hr, fun _ => ⟨?_, ?_⟩⟩
    · rw [vw_eq (S := S) (i := 0) (fun m x y => kk m (by omega) (by omega) (by omega) (by omega) (by omega) (by omega)), mw_eq (S := S) (kk 84 (by omega) (by omega) (by omega) (by omega) (by omega) (by omega))]
      exact hg
    · exact R2_k hT (by rw [kk 73 (by omega) (by omega) (by omega) (by omega) (by omega) (by omega)]) (kk 74 (by omega) (by omega) (by omega) (by omega) (by omega) (by omega)) (by rw [u82, uq_ne _ _ (by decide)]) (kk 83 (by omega) (by omega) (by omega) (by omega) (by omega) (by omega))
    · exact R3_k h3 (by rw [kk 75 (by omega) (by omega) (by omega) (by omega) (by omega) (by omega)]) (by rw [kk 75 (by omega) (by omega) (by omega) (by omega) (by omega) (by omega)]) (by rw [u82, uq_ne _ _ (by decide)]) (kk 86 (by omega) (by omega) (by omega) (by omega) (by omega) (by omega)) (fun m x y => kk m (by omega) (by omega) (by omega) (by omega) (by omega) (by omega))
    · rw [kk 78 (by omega) (by omega) (by omega) (by omega) (by omega) (by omega)]; exact h8
    · rcases hs with rfl | rfl
      · have e81 : S2 81 0 = S 81 0 := by rw [kk 81 (by decide) (by decide) (by decide) (by decide) (by decide) (by decide)]
        refine ⟨Or.inr hf, by rw [e81]; exact f2, by rw [u88, uq_eq]; exact hf.symm, by rw [u88, uq_ne _ _ (by decide), e81]; exact f4, fun _ => ?_, fun z => ?_⟩
        · rw [hkw]
          have hv2 : vw S2 2 = vw S 0 := hv
          rw [hv2]; exact hg
        · rw [e81] at z
          rw [hko 1 (Or.inr rfl) (by decide), vw_eq (S := S) (i := 3) (fun m x y => kk m (by have : (0 : Int).toNat = 0 := rfl; omega) (by have : (0 : Int).toNat = 0 := rfl; omega) (by omega) (by omega) (by omega) (by omega))]
          exact f6 z
      · have e80 : S2 80 0 = S 80 0 := by rw [kk 80 (by decide) (by decide) (by decide) (by decide) (by decide) (by decide)]
        refine ⟨by rw [e80]; exact f1, Or.inr hf, by rw [u88, uq_ne _ _ (by decide), e80]; exact f3, by rw [u88, uq_eq]; exact hf.symm, fun z => ?_, fun _ => ?_⟩
        · rw [e80] at z
          rw [hko 0 (Or.inl rfl) (by decide), vw_eq (S := S) (i := 2) (fun m x y => kk m (by have : (1 : Int).toNat = 1 := rfl; omega) (by have : (1 : Int).toNat = 1 := rfl; omega) (by omega) (by omega) (by omega) (by omega))]
          exact f5 z
        · rw [hkw]
          have hv2 : vw S2 3 = vw S 0 := hv
          rw [hv2]; exact hg
    · rw [u82, uq_eq, c0]
    · rw [b, saU, us_a (by decide), us_a (by decide), us_a (by decide), us_eq, uq_eq]
    · have e0 : vw S 0 0 = mw S 84 0 := hg.1.1.1.1
      rw [us_a (show 84 ≠ 91 by decide), k8 84 (by decide)]
      exact e0.symm
  · rw [if_neg cn] at a b
    refine ⟨_, 0, 0, h1.1, a, ?_, ?_, hr, fun z => absurd z cn⟩
    · rw [b]; exact RR_q h (by rw [eS]; exact q_id h8) (qM_c _ _).1
    · rw [b]; exact (qM_c _ _).2
theorem st_restore (h : RR S) (s : Int) (h1 : wP (cd_rest s (S (80 + s.toNat) 0)) (vw S (2 + s.toNat) 0) (fun S' => vw S' 0 = vw S (2 + s.toNat) ∧ (S' 75 0 = S 75 0 ∧ S' 75 1 = 0) ∧ ∀ m : Nat, 4 ≤ m → m ≠ 75 → S' m = S m) (fun S' => S' = S) v S1) (h2 : pU S1 (cd_rest s (S1 88 s)) (S1 87 (54 * s)) (reU S1 s) w S2) : stp v w S2 := by
  obtain ⟨hg, hT, ⟨hnx, -⟩, h8, h5⟩ := id h
  have hk : keep S S1 := wP_keep h1 (fun S' z m m8 _ => z.2.2 m (by omega) (by omega)) (fun S' z => q_keep (by rw [z]; exact q_id h8))
  have hr : 0 ≤ cd_rest s (S (80 + s.toNat) 0) ∧ cd_rest s (S (80 + s.toNat) 0) ≤ 3 := by unfold cd_rest; (repeat' split) <;> omega
  have ecd : cd_rest s (S1 88 s) = cd_rest s (S (80 + s.toNat) 0) := by
    rw [hk 88 (by decide) (by decide)]
    unfold cd_rest
    by_cases hs : 0 ≤ s ∧ s ≤ 1
    · rcases (show s = 0 ∨ s = 1 by omega) with rfl | rfl
      · rw [h5.2.2.1]; rfl
      · rw [h5.2.2.2.1]; rfl
    · rw [if_neg hs, if_neg hs]
  obtain ⟨a, b⟩ := h2
  rw [ecd] at a b
  rcases h1.2 with ⟨c0, T, ⟨p1, p2, p3⟩, rfl⟩ | ⟨cn, eS⟩
  · have hs : (s = 0 ∨ s = 1) ∧ S (80 + s.toNat) 0 ≠ 0 := by
      unfold cd_rest at c0
      by_cases hs : 0 ≤ s ∧ s ≤ 1
      · rw [if_pos hs] at c0
        exact ⟨by omega, fun z => by rw [if_pos z] at c0; exact absurd c0 (by decide)⟩
      · rw [if_neg hs] at c0; exact absurd c0 (by decide)
    have hgs : good (vw S (2 + s.toNat)) (kwR S s) := by
      rcases hs with ⟨rfl | rfl, hn⟩
      · exact h5.2.2.2.2.1 (by rcases h5.1 with z | z; exact absurd z hn; exact z)
      · exact h5.2.2.2.2.2 (by rcases h5.2.1 with z | z; exact absurd z hn; exact z)
    rw [if_pos c0] at a b
    have k8 : ∀ m : Nat, 82 ≤ m → T m = S m := fun m x => p3 m (by omega) (by omega)
    have u84 : S2 84 = cpF (S 84) (S 87) (54 * s) 0 54 := by
      rw [b, reU, us_a (show 84 ≠ 82 by decide), us_eq, us_a (show 84 ≠ 91 by decide), us_a (show 87 ≠ 91 by decide), k8 87 (by decide), k8 84 (by decide)]
    have u82 : S2 82 = uq (uq (S 82) 0 0) 2 0 := by
      rw [b, reU, us_eq, us_a (show 82 ≠ 91 by decide), k8 82 (by decide)]
    have uo : ∀ m : Nat, m ≠ 82 → m ≠ 84 → m ≠ 91 → S2 m = T m := fun m x y z => by rw [b, reU, us_a x, us_a y, us_a z]
    have kk : ∀ m : Nat, 4 ≤ m → m ≠ 75 → m ≠ 82 → m ≠ 84 → m ≠ 91 → S2 m = S m := fun m m4 m5 x y z => (uo m x y z).trans (p3 m m4 m5)
    have e75 : S2 75 = T 75 := uo 75 (by decide) (by decide) (by decide)
    have em : mw S2 84 = kwR S s := by
      funext c
      unfold kwR mw
      by_cases hc : 0 ≤ c ∧ c < 54
      · rw [if_pos hc, if_pos hc, u84, cpF, if_pos (by omega), Int.sub_zero]
      · rw [if_neg hc, if_neg hc]
    refine ⟨_, vw S (2 + s.toNat) 0, _, h1.1, a, ⟨?_, ?_, ⟨?_, ?_, ?_, fun k hk9 => ?_⟩, ?_, ?_⟩, ?_, hr, fun _ => ⟨?_, ?_⟩⟩
    · rw [em, vw_eq (S := T) (i := 0) (fun m x y => uo m (by omega) (by omega) (by omega)), p1]
      exact hgs
    · exact R2_k hT (by rw [kk 73 (by decide) (by decide) (by decide) (by decide) (by decide)]) (kk 74 (by decide) (by decide) (by decide) (by decide) (by decide)) (by rw [u82, uq_ne _ _ (by decide), uq_ne _ _ (by decide)]) (kk 83 (by decide) (by decide) (by decide) (by decide) (by decide))
    · rw [e75, p2.1]; exact hnx
    · rw [e75, p2.2]; exact ⟨by decide, by decide⟩
    · rw [e75, p2.2, u82, uq_eq]
    · rw [e75, p2.2] at hk9; omega
    · rw [kk 78 (by decide) (by decide) (by decide) (by decide) (by decide)]; exact h8
    · exact R5_k h5 (by rw [kk 80 (by decide) (by decide) (by decide) (by decide) (by decide)]) (by rw [kk 81 (by decide) (by decide) (by decide) (by decide) (by decide)]) (kk 87 (by decide) (by decide) (by decide) (by decide) (by decide)) (kk 88 (by decide) (by decide) (by decide) (by decide) (by decide)) (fun m x y => kk m (by omega) (by omega) (by omega) (by omega) (by omega))
    · rw [u82, uq_ne _ _ (by decide), uq_eq, c0]
    · rw [b, reU, us_a (by decide), us_a (by decide), us_eq, uq_eq]
    · have e0 : vw S (2 + s.toNat) 0 = kwR S s 0 := hgs.1.1.1.1
      rw [e0, us_a (show 87 ≠ 91 by decide), k8 87 (by decide), kwR, if_pos ⟨by decide, by decide⟩, Int.add_zero]
  · rw [if_neg cn] at a b
    refine ⟨_, 0, 0, h1.1, a, ?_, ?_, hr, fun z => absurd z cn⟩
    · rw [b]; exact RR_q h (by rw [eS]; exact q_id h8) (qM_c _ _).1
    · rw [b]; exact (qM_c _ _).2
end
