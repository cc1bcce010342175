/-! EACH CALL OF THE PAIR: the same code, the same answer, and the pair is a pair again -/
def keep (S S' : SS) : Prop := ∀ m : Nat, 82 ≤ m → m ≠ 91 → S' m = S m
def stp (v w : Option Value) (S2 : SS) : Prop := ∃ c x y : Int, v = some (.int (iI c)) ∧ w = some (.int (iI y)) ∧ RR S2 ∧ S2 82 0 = c ∧ (0 ≤ c ∧ c ≤ 3) ∧ (c = 0 → S2 91 0 = oI x ∧ y = x)
def stq (v w : Option Value) (S2 : SS) : Prop := ∃ x : Int, v = some (.int (iI x)) ∧ w = some (.int (iI x)) ∧ RR S2
theorem k_us {S S' : SS} (h : keep S S') (g : Int → Int) : keep S (us S' 91 g) := fun m a b => by rw [us_a b]; exact h m a b
theorem q_us {S S' : SS} (h : qC S S') (g : Int → Int) : qC S (us S' 91 g) := ⟨fun m a b c d e => by rw [us_a (by omega)]; exact h.1 m a b c d e, by rw [us_a (by decide)]; exact h.2.1, k_us h.2.2 g⟩
theorem h_us {S S' : SS} {G : Int → Int} (h : hC S S' G) (g : Int → Int) (hn : S 75 0 < 14) : hC S (us S' 91 g) G := by
  obtain ⟨a, b, ⟨c, d⟩, e, f, i⟩ := h
  refine ⟨?_, ?_, ⟨by rw [us_a (by decide)]; exact c, by rw [us_a (by decide)]; exact d⟩, by rw [us_a (by decide)]; exact e, fun m m4 m8 m5 mh m7 m78 m79 => by rw [us_a (by omega)]; exact f m m4 m8 m5 mh m7 m78 m79, k_us i g⟩
  · rw [vw_eq (S := S') (fun m x y => us_a (by omega))]; exact a
  · rw [vw_eq (S := S') (fun m x y => us_a (by omega))]; exact b
theorem q_id {S : SS} (h : S 78 0 = 0) : qC S S := ⟨fun _ _ _ _ _ _ => rfl, h, fun _ _ _ => rfl⟩
theorem q_fr {S S' : SS} (h : S 78 0 = 0) (hf : fr S S' 1) : qC S S' := ⟨fun m _ a _ _ _ => hf m (by omega), by rw [hf 78 (by omega)]; exact h, fun m a _ => hf m (by omega)⟩
theorem q_fdv {S S' : SS} (h : fdv S S') : qC S S' := ⟨fun m _ _ a b c => h.1 m a b c, h.2, fun m a _ => h.1 m (by omega) (by omega) (by omega)⟩
theorem q_f1 {S S' : SS} (h : f1t S S' ∧ S' 78 0 = 0) : qC S S' := ⟨fun m _ a b c d => h.1 m a b c d, h.2, fun m a _ => h.1 m (by omega) (by omega) (by omega) (by omega)⟩
theorem h_ch {S S' : SS} {G : Int → Int} (h : chP S S' G) (h8 : S 78 0 = 0) (hn : 0 ≤ S 75 0 ∧ S 75 0 < 14) : hC S S' G := by
  obtain ⟨a, b, c, d⟩ := h
  exact ⟨a, b, c, by rw [d 78 (by decide) (by decide) (by omega)]; exact h8, fun m m4 _ m5 mh _ _ _ => d m m4 m5 mh, fun m m8 _ => d m (by omega) (by omega) (by omega)⟩
theorem h_dv {S S' : SS} (h : dvP S S') (hn : 0 ≤ S 75 0 ∧ S 75 0 < 14) : hC S S' (dealG (lsT (vw S 0) (wyF (vw S 0)) (fewF (vw S 0)).toNat) 0) := by
  obtain ⟨a, b, c, d, e⟩ := h
  exact ⟨a, b, c, d, fun m m4 _ m5 mh m7 m8 m9 => e m m4 m5 mh m7 m8 m9, fun m m8 _ => e m (by omega) (by omega) (by omega) (by omega) (by omega) (by omega)⟩
/-- the pair, as the law's calls want it -/
def preM (S : SS) : Prop := wf (mw S 84) ∧ (0 ≤ S 82 2 ∧ S 82 2 ≤ 14) ∧ (0 ≤ S 82 1 ∧ S 82 1 ≤ 120) ∧ (∀ c : Int, 0 ≤ c → c < 120 → 0 ≤ S 83 c ∧ S 83 c ≤ 255) ∧ ∀ s : Int, 0 ≤ s → s ≤ 1 → 0 ≤ S 88 s ∧ S 88 s ≤ 1
theorem pre_of {S S1 : SS} (h : RR S) (hk : keep S S1) : preM S1 := by
  obtain ⟨⟨_, _, a⟩, ⟨b1, b2, b3, b4⟩, ⟨d1, d2, d3, _⟩, _, ⟨f1, f2, f3, f4, _⟩⟩ := h
  have e82 : S1 82 = S 82 := hk 82 (by decide) (by decide)
  refine ⟨by rw [mw_eq (S := S) (hk 84 (by decide) (by decide))]; exact a, by rw [e82, d3]; exact d2, by rw [e82, ← b2]; exact b3, fun c c0 c1 => by rw [hk 83 (by decide) (by decide), ← b1]; exact b4 c c0 c1, fun s s0 s1 => ?_⟩
  rw [hk 88 (by decide) (by decide)]
  rcases (show s = 0 ∨ s = 1 by omega) with rfl | rfl
  · rw [f3]; omega
  · rw [f4]; omega
theorem wP_keep {S S1 : SS} {c x : Int} {P PX : SS → Prop} {v : Option Value} (h : wP c x P PX v S1) (hP : ∀ S' : SS, P S' → keep S S') (hX : ∀ S' : SS, PX S' → keep S S') : keep S S1 := by
  rcases h.2 with ⟨_, T, hT, rfl⟩ | ⟨_, hT⟩
  · exact k_us (hP T hT) _
  · exact hX _ hT
theorem q_keep {S S' : SS} (h : qC S S') : keep S S' := h.2.2
theorem h_keep {S S' : SS} {G : Int → Int} (h : hC S S' G) : keep S S' := h.2.2.2.2.2
/-- quiet calls -/
theorem st_q {S S1 S2 : SS} (h : RR S) {c x c' y0 : Int} {P PX : SS → Prop} {v w : Option Value} (h1 : wP c x P PX v S1) (hP : ∀ S' : SS, P S' → qC S S') (hX : ∀ S' : SS, PX S' → qC S S') (h2 : w = some (.int (iI (if c' = 0 then y0 else 0)))) (h3 : qM S1 S2) (h4 : S2 82 0 = c') (hc : c' = c) (hr : 0 ≤ c ∧ c ≤ 3) (hy : c = 0 → y0 = x) : stp v w S2 := by
  subst hc
  have e91 : S2 91 = S1 91 := h3.1 91 (by decide) (by decide) (by decide) (by decide)
  rcases h1.2 with ⟨c0, T, hT, rfl⟩ | ⟨cn, hT⟩
  · refine ⟨c', x, y0, h1.1, by rw [h2, if_pos c0], RR_q h (q_us (hP T hT) _) h3, h4, hr, fun _ => ⟨?_, hy c0⟩⟩
    rw [e91, us_eq, uq_eq]
  · exact ⟨c', x, 0, h1.1, by rw [h2, if_neg cn], RR_q h (hX _ hT) h3, h4, hr, fun z => absurd z cn⟩
/-- changing calls -/
theorem st_h {S S1 S2 : SS} (h : RR S) {c x c' y0 : Int} {P PX : SS → Prop} {G G' : Int → Int} {v w : Option Value} (h1 : wP c x P PX v S1) (hP : ∀ S' : SS, c = 0 → P S' → hC S S' G) (hX : ∀ S' : SS, PX S' → qC S S') (h2 : w = some (.int (iI (if c' = 0 then y0 else 0)))) (h3 : c' = 0 → hM S1 S2 G') (h4 : c' ≠ 0 → qM S1 S2 ∧ S2 82 0 = c') (hc : c' = c) (hr : 0 ≤ c ∧ c ≤ 3) (hg : c = 0 → good G G') (hy : c = 0 → y0 = x) : stp v w S2 := by
  subst hc
  rcases h1.2 with ⟨c0, T, hT, rfl⟩ | ⟨cn, hT⟩
  · have m := h3 c0
    refine ⟨c', x, y0, h1.1, by rw [h2, if_pos c0], RR_h h (hg c0) (h_us (hP T c0 hT) _ h.2.2.1.1.2) m, ?_, hr, fun _ => ⟨?_, hy c0⟩⟩
    · rw [m.2 82 (by decide) (by decide) (by decide) (by decide), rmU_82, uq_ne _ _ (by decide), us_eq, uq_eq, c0]
    · rw [m.2 91 (by decide) (by decide) (by decide) (by decide), rmU_lo _ (by decide) (by decide), us_a (by decide), us_eq, uq_eq]
  · exact ⟨c', x, 0, h1.1, by rw [h2, if_neg cn], RR_q h (hX _ hT) (h4 cn).1, (h4 cn).2, hr, fun z => absurd z cn⟩
theorem qM_c (S : SS) (c : Int) : qM S (us S 82 (uq (S 82) 0 c)) ∧ us S 82 (uq (S 82) 0 c) 82 0 = c := by
  refine ⟨⟨fun m a _ _ _ => us_a a, ?_, ?_⟩, ?_⟩
  · rw [us_eq, uq_ne _ _ (by decide)]
  · rw [us_eq, uq_ne _ _ (by decide)]
  · rw [us_eq, uq_eq]
theorem pC_q {S S2 : SS} {c x : Int} {w : Option Value} (h : pC S c x w S2) : w = some (.int (iI (if c = 0 then x else 0))) ∧ qM S S2 ∧ S2 82 0 = c := by
  obtain ⟨a, rfl⟩ := h
  exact ⟨a, (qM_c S c).1, (qM_c S c).2⟩
theorem fz_qM {S S2 : SS} {c : Int} (h : fz S c S2) : qM S S2 ∧ S2 82 0 = c := by
  have e : S2 82 = us S 82 (uq (S 82) 0 c) 82 := h 82 (by decide) (by decide) (by decide)
  refine ⟨⟨fun m a b d f => (h m b d f).trans (us_a a), ?_, ?_⟩, ?_⟩
  · rw [e, us_eq, uq_ne _ _ (by decide)]
  · rw [e, us_eq, uq_ne _ _ (by decide)]
  · rw [e, us_eq, uq_eq]
theorem pS_q {S S2 : SS} {c x : Int} {w : Option Value} (h : pS S c x w S2) : w = some (.int (iI (if c = 0 then x else 0))) ∧ qM S S2 ∧ S2 82 0 = c := ⟨h.1, (fz_qM h.2).1, (fz_qM h.2).2⟩
theorem pT_q {S S2 : SS} {c x : Int} {w : Option Value} (h : pT S c x w S2) : w = some (.int (iI (if c = 0 then x else 0))) ∧ qM S S2 ∧ S2 82 0 = c := by
  have hz : fz S c S2 := fun m a _ _ => h.2 m a
  exact ⟨h.1, (fz_qM hz).1, (fz_qM hz).2⟩
theorem pX_q {S S2 : SS} {c x : Int} {G : Int → Int} {w : Option Value} (h : pX S c x G w S2) : w = some (.int (iI (if c = 0 then x else 0))) ∧ (c = 0 → hM S S2 G) ∧ (c ≠ 0 → qM S S2 ∧ S2 82 0 = c) :=
  ⟨h.1, fun z => ⟨(h.2.1 z).1, fun m a _ _ _ => (h.2.1 z).2 m a⟩, fun z => by rw [h.2.2 z]; exact qM_c S c⟩
theorem pD_q {S S2 : SS} {w : Option Value} (h : pD S w S2) : w = some (.int (iI (if cd_dv (fewF (mw S 84)) = 0 then fewF (mw S 84) else 0))) ∧ (cd_dv (fewF (mw S 84)) = 0 → hM S S2 (dvF (mw S 84))) ∧ (cd_dv (fewF (mw S 84)) ≠ 0 → qM S S2 ∧ S2 82 0 = cd_dv (fewF (mw S 84))) := by
  have e : cd_dv (fewF (mw S 84)) = 0 ↔ fewF (mw S 84) ≠ -1 := by unfold cd_dv; split <;> omega
  refine ⟨?_, fun z => ⟨(h.2.2 (e.mp z)).1, (h.2.2 (e.mp z)).2⟩, fun z => ?_⟩
  · rw [h.1]
    by_cases c : fewF (mw S 84) = -1
    · rw [if_pos c, if_neg (fun z => e.mp z c)]
    · rw [if_neg c, if_pos (e.mpr c)]
  · have c : fewF (mw S 84) = -1 := by
      by_cases c : fewF (mw S 84) = -1
      · exact c
      · exact absurd (e.mpr c) z
    have c1 : cd_dv (fewF (mw S 84)) = 1 := if_pos c
    rw [c1]
    exact fz_qM (h.2.1 c)
