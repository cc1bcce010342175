/-! THE CLASS'S READING of a text: sign by sign, by forms; it finds what the reference finds -/
def aE (t : Int → Int) (z : Int) : Nat → Nat → Nat → Int → Int
  | 0, fi, k, _ => if k < txL fi then z else -1
  | n + 1, fi, k, i => if i < z then (if txL fi ≤ k then (if fmI (t i) = -1 then i else aE t z n (fmI (t i)).toNat 0 (i + 1)) else (if fitF (txC fi k) (t i) (t (i - 1)) = 0 then i else aE t z n fi (k + 1) (i + 1))) else (if k < txL fi then z else -1)
theorem aE_out {t : Int → Int} {z i : Int} (h : ¬ i < z) (fi k : Nat) : ∀ n : Nat, aE t z n fi k i = if k < txL fi then z else -1
  | 0 => rfl
  | n + 1 => by rw [aE, if_neg h]
theorem aE_new {t : Int → Int} {z i : Int} {n fi k : Nat} (h : i < z) (hn : z - i ≤ n) (hk : txL fi ≤ k) : aE t z n fi k i = if fmI (t i) = -1 then i else aE t z (n - 1) (fmI (t i)).toNat 0 (i + 1) := by
  obtain ⟨m, rfl⟩ : ∃ m, n = m + 1 := ⟨n - 1, by omega⟩
  rw [aE, if_pos h, if_pos hk]
  rfl
theorem aE_fit {t : Int → Int} {z i : Int} {n fi k : Nat} (h : i < z) (hn : z - i ≤ n) (hk : k < txL fi) : aE t z n fi k i = if fitF (txC fi k) (t i) (t (i - 1)) = 0 then i else aE t z (n - 1) fi (k + 1) (i + 1) := by
  obtain ⟨m, rfl⟩ : ∃ m, n = m + 1 := ⟨n - 1, by omega⟩
  rw [aE, if_pos h, if_neg (by omega)]
  rfl
/-- one figure -/
theorem aE_d1 {t : Int → Int} {z q lo hi ch : Int} {n fi k : Nat} (hq : q ≤ z) (hn : z - q ≤ n) (hk : k < txL fi) (hc : txC fi k = ch) (hh : (ch = 122 ∧ lo = 0 ∧ hi = 1) ∨ (ch = 111 ∧ lo = 0 ∧ hi = 2) ∨ (ch = 119 ∧ lo = 1 ∧ hi = 9)) : aE t z n fi k q = if fgV t z q 1 lo hi = -1 then fgP t z q 1 lo hi else aE t z (n - 1) fi (k + 1) (q + 1) := by
  have ed : dgF t z q = if q < z then t q - 48 else -1 := rfl
  have eV : fgV t z q 1 lo hi = if (0 ≤ dgF t z q ∧ dgF t z q ≤ 9) ∧ dgF t z q ≤ hi ∧ lo ≤ dgF t z q then dgF t z q else -1 := rfl
  have eP : fgP t z q 1 lo hi = if (0 ≤ dgF t z q ∧ dgF t z q ≤ 9) ∧ dgF t z q ≤ hi ∧ lo ≤ dgF t z q then q + 1 else q := rfl
  by_cases hz : q < z
  · rw [if_pos hz] at ed
    have ef : fitF ch (t q) (t (q - 1)) = if (0 ≤ dgF t z q ∧ dgF t z q ≤ 9) ∧ dgF t z q ≤ hi ∧ lo ≤ dgF t z q then 1 else 0 := by
      rcases hh with ⟨rfl, rfl, rfl⟩ | ⟨rfl, rfl, rfl⟩ | ⟨rfl, rfl, rfl⟩
      · show (if t q = 48 ∨ t q = 49 then 1 else 0) = _
        split <;> split <;> omega
      · show (if 48 ≤ t q ∧ t q ≤ 50 then 1 else 0) = _
        split <;> split <;> omega
      · show (if 49 ≤ t q ∧ t q ≤ 57 then 1 else 0) = _
        split <;> split <;> omega
    rw [aE_fit hz hn hk, hc, ef, eV, eP]
    by_cases hcond : (0 ≤ dgF t z q ∧ dgF t z q ≤ 9) ∧ dgF t z q ≤ hi ∧ lo ≤ dgF t z q
    · rw [if_pos hcond, if_pos hcond, if_pos hcond, if_neg (by decide), if_neg (by omega)]
    · rw [if_neg hcond, if_neg hcond, if_neg hcond, if_pos rfl, if_pos rfl]
  · rw [if_neg hz] at ed
    have hcond : ¬ ((0 ≤ dgF t z q ∧ dgF t z q ≤ 9) ∧ dgF t z q ≤ hi ∧ lo ≤ dgF t z q) := by omega
    rw [aE_out hz, if_pos hk, eV, eP, if_neg hcond, if_neg hcond, if_pos rfl]
    omega
/-- two figures -/
theorem aE_d2 {t : Int → Int} {z q lo ch : Int} {n fi : Nat} (hq : q ≤ z) (hn : z - q ≤ n) (hk : 2 ≤ txL fi) (h0 : txC fi 0 = 116) (hc : txC fi 1 = ch) (hh : (ch = 117 ∧ lo = 0) ∨ (ch = 112 ∧ lo = 1)) : aE t z n fi 0 q = if fgV t z q 2 lo 15 = -1 then fgP t z q 2 lo 15 else aE t z (n - 2) fi 2 (q + 2) := by
  have ed : dgF t z q = if q < z then t q - 48 else -1 := rfl
  have ed2 : dgF t z (q + 1) = if q + 1 < z then t (q + 1) - 48 else -1 := rfl
  have eV : fgV t z q 2 lo 15 = (if (0 ≤ dgF t z q ∧ dgF t z q ≤ 9) ∧ 10 * dgF t z q ≤ 15 ∧ lo ≤ 10 * dgF t z q + 9 then (if (0 ≤ dgF t z (q + 1) ∧ dgF t z (q + 1) ≤ 9) ∧ 10 * dgF t z q + dgF t z (q + 1) ≤ 15 ∧ lo ≤ 10 * dgF t z q + dgF t z (q + 1) then 10 * dgF t z q + dgF t z (q + 1) else -1) else -1) := rfl
  have eP : fgP t z q 2 lo 15 = (if (0 ≤ dgF t z q ∧ dgF t z q ≤ 9) ∧ 10 * dgF t z q ≤ 15 ∧ lo ≤ 10 * dgF t z q + 9 then (if (0 ≤ dgF t z (q + 1) ∧ dgF t z (q + 1) ≤ 9) ∧ 10 * dgF t z q + dgF t z (q + 1) ≤ 15 ∧ lo ≤ 10 * dgF t z q + dgF t z (q + 1) then q + 2 else q + 1) else q) := rfl
  by_cases hz : q < z
  · rw [if_pos hz] at ed
    have ef : fitF 116 (t q) (t (q - 1)) = if t q = 48 ∨ t q = 49 then 1 else 0 := rfl
    rw [aE_fit hz hn (by omega), h0, ef]
    by_cases hd : t q = 48 ∨ t q = 49
    · have hcd : (0 ≤ dgF t z q ∧ dgF t z q ≤ 9) ∧ 10 * dgF t z q ≤ 15 ∧ lo ≤ 10 * dgF t z q + 9 := by omega
      rw [if_pos hcd] at eV eP
      rw [if_pos hd, if_neg (by decide)]
      by_cases hz2 : q + 1 < z
      · rw [if_pos hz2] at ed2
        have ef2 : fitF ch (t (q + 1)) (t q) = if (0 ≤ dgF t z (q + 1) ∧ dgF t z (q + 1) ≤ 9) ∧ 10 * dgF t z q + dgF t z (q + 1) ≤ 15 ∧ lo ≤ 10 * dgF t z q + dgF t z (q + 1) then 1 else 0 := by
          rcases hh with ⟨rfl, rfl⟩ | ⟨rfl, rfl⟩
          · show (if 48 ≤ t (q + 1) ∧ t (q + 1) ≤ (if t q = 49 then 53 else 57) then 1 else 0) = _
            (repeat' split) <;> omega
          · show (if t q = 49 then (if 48 ≤ t (q + 1) ∧ t (q + 1) ≤ 53 then 1 else 0) else (if 49 ≤ t (q + 1) ∧ t (q + 1) ≤ 57 then 1 else 0)) = _
            (repeat' split) <;> omega
        rw [aE_fit hz2 (by omega) (by omega), hc, show q + 1 - 1 = q by omega, ef2, eV, eP]
        by_cases hcond : (0 ≤ dgF t z (q + 1) ∧ dgF t z (q + 1) ≤ 9) ∧ 10 * dgF t z q + dgF t z (q + 1) ≤ 15 ∧ lo ≤ 10 * dgF t z q + dgF t z (q + 1)
        · rw [if_pos hcond, if_pos hcond, if_pos hcond, if_neg (by decide), if_neg (by omega), show q + 1 + 1 = q + 2 by omega]
          rfl
        · rw [if_neg hcond, if_neg hcond, if_neg hcond, if_pos rfl, if_pos rfl]
      · rw [if_neg hz2] at ed2
        have hcond : ¬ ((0 ≤ dgF t z (q + 1) ∧ dgF t z (q + 1) ≤ 9) ∧ 10 * dgF t z q + dgF t z (q + 1) ≤ 15 ∧ lo ≤ 10 * dgF t z q + dgF t z (q + 1)) := by omega
        rw [aE_out hz2, if_pos (by omega), eV, eP, if_neg hcond, if_neg hcond, if_pos rfl]
        omega
    · have hcd : ¬ ((0 ≤ dgF t z q ∧ dgF t z q ≤ 9) ∧ 10 * dgF t z q ≤ 15 ∧ lo ≤ 10 * dgF t z q + 9) := by omega
      rw [if_neg hcd] at eV eP
      rw [if_neg hd, if_pos rfl, eV, eP, if_pos rfl]
  · rw [if_neg hz] at ed
    have hcd : ¬ ((0 ≤ dgF t z q ∧ dgF t z q ≤ 9) ∧ 10 * dgF t z q ≤ 15 ∧ lo ≤ 10 * dgF t z q + 9) := by omega
    rw [if_neg hcd] at eV eP
    rw [aE_out hz, if_pos (by omega), eV, eP, if_pos rfl]
    omega
theorem fg1_ok {t : Int → Int} {z q lo hi : Int} (h : fgV t z q 1 lo hi ≠ -1) : q < z ∧ fgV t z q 1 lo hi = t q - 48 ∧ fgP t z q 1 lo hi = q + 1 := by
  have ed : dgF t z q = if q < z then t q - 48 else -1 := rfl
  have eV : fgV t z q 1 lo hi = if (0 ≤ dgF t z q ∧ dgF t z q ≤ 9) ∧ dgF t z q ≤ hi ∧ lo ≤ dgF t z q then dgF t z q else -1 := rfl
  have eP : fgP t z q 1 lo hi = if (0 ≤ dgF t z q ∧ dgF t z q ≤ 9) ∧ dgF t z q ≤ hi ∧ lo ≤ dgF t z q then q + 1 else q := rfl
  rw [eV] at h ⊢
  rw [eP]
  split
  · next hc => rw [if_pos hc] at h; omega
  · next hc => rw [if_neg hc] at h; exact absurd rfl h
theorem fg2_ok {t : Int → Int} {z q lo hi : Int} (h : fgV t z q 2 lo hi ≠ -1) : q + 1 < z ∧ fgV t z q 2 lo hi = 10 * (t q - 48) + (t (q + 1) - 48) ∧ fgP t z q 2 lo hi = q + 2 := by
  have ed : dgF t z q = if q < z then t q - 48 else -1 := rfl
  have ed2 : dgF t z (q + 1) = if q + 1 < z then t (q + 1) - 48 else -1 := rfl
  have eV : fgV t z q 2 lo hi = (if (0 ≤ dgF t z q ∧ dgF t z q ≤ 9) ∧ 10 * dgF t z q ≤ hi ∧ lo ≤ 10 * dgF t z q + 9 then (if (0 ≤ dgF t z (q + 1) ∧ dgF t z (q + 1) ≤ 9) ∧ 10 * dgF t z q + dgF t z (q + 1) ≤ hi ∧ lo ≤ 10 * dgF t z q + dgF t z (q + 1) then 10 * dgF t z q + dgF t z (q + 1) else -1) else -1) := rfl
  have eP : fgP t z q 2 lo hi = (if (0 ≤ dgF t z q ∧ dgF t z q ≤ 9) ∧ 10 * dgF t z q ≤ hi ∧ lo ≤ 10 * dgF t z q + 9 then (if (0 ≤ dgF t z (q + 1) ∧ dgF t z (q + 1) ≤ 9) ∧ 10 * dgF t z q + dgF t z (q + 1) ≤ hi ∧ lo ≤ 10 * dgF t z q + dgF t z (q + 1) then q + 2 else q + 1) else q) := rfl
  rw [eV] at h ⊢
  rw [eP]
  split
  · next hc =>
    rw [if_pos hc] at h
    split
    · next hd => rw [if_pos hd] at h; omega
    · next hd => rw [if_neg hd] at h; exact absurd rfl h
  · next hc => rw [if_neg hc] at h; exact absurd rfl h
theorem yes_1 {v : Int} : yes v = 1 ↔ v ≠ -1 := by unfold yes; split <;> omega
theorem yes_0 {v : Int} (h : v = -1) : yes v = 0 := if_pos h
/-- where a right command ends -/
theorem kP_len {c : Int} {t : Int → Int} {z q : Int} (h : kO c t z q = 1) : fmI c ≠ -1 ∧ kP c t z q = q + (txL (fmI c).toNat : Nat) ∧ kP c t z q ≤ z ∨ (c = 114 ∧ kP c t z q = q) := by
  by_cases hc : c = 114
  · exact Or.inr ⟨hc, by rw [hc]; rfl⟩
  · refine Or.inl ?_
    rcases (show c = 106 ∨ c = 98 ∨ c = 116 ∨ c = 99 ∨ c = 109 ∨ c = 103 ∨ c = 100 ∨ c = 115 ∨ (c ≠ 106 ∧ c ≠ 98 ∧ c ≠ 116 ∧ c ≠ 99 ∧ c ≠ 109 ∧ c ≠ 103 ∧ c ≠ 100 ∧ c ≠ 115 ∧ c ≠ 114) by omega) with rfl | rfl | rfl | rfl | rfl | rfl | rfl | rfl | hno
    · have h1 : rjO t z q = 1 := h
      unfold rjO at h1
      split at h1
      · next hk =>
        have h2 := fg1_ok (yes_1.mp h1)
        have e : kP 106 t z q = fgP t z (q + 1) 1 1 9 := if_pos hk
        refine ⟨by decide, ?_, ?_⟩
        · rw [e, h2.2.2]; show q + 1 + 1 = q + ((2 : Nat) : Int); omega
        · rw [e, h2.2.2]; omega
      · exact absurd h1 (by decide)
    · have h2 := fg2_ok (yes_1.mp (show yes (fgV t z q 2 0 15) = 1 from h))
      have e : kP 98 t z q = fgP t z q 2 0 15 := rfl
      exact ⟨by decide, by rw [e, h2.2.2]; rfl, by rw [e, h2.2.2]; omega⟩
    · have h2 := fg2_ok (yes_1.mp (show yes (fgV t z q 2 0 15) = 1 from h))
      have e : kP 116 t z q = fgP t z q 2 0 15 := rfl
      exact ⟨by decide, by rw [e, h2.2.2]; rfl, by rw [e, h2.2.2]; omega⟩
    · have h2 := fg2_ok (yes_1.mp (show yes (fgV t z q 2 1 15) = 1 from h))
      have e : kP 99 t z q = fgP t z q 2 1 15 := rfl
      exact ⟨by decide, by rw [e, h2.2.2]; rfl, by rw [e, h2.2.2]; omega⟩
    · have h2 := fg2_ok (yes_1.mp (show yes (fgV t z q 2 1 15) = 1 from h))
      have e : kP 109 t z q = fgP t z q 2 1 15 := rfl
      exact ⟨by decide, by rw [e, h2.2.2]; rfl, by rw [e, h2.2.2]; omega⟩
    · have h1 : (if fgV t z q 2 0 15 = -1 then 0 else yes (fgV t z (fgP t z q 2 0 15) 1 0 2)) = 1 := h
      split at h1
      · exact absurd h1 (by decide)
      · next hk =>
        have h2 := fg2_ok hk
        have h3 := fg1_ok (yes_1.mp h1)
        have e : kP 103 t z q = fgP t z (fgP t z q 2 0 15) 1 0 2 := if_neg hk
        refine ⟨by decide, ?_, ?_⟩
        · rw [e, h3.2.2, h2.2.2]; show q + 2 + 1 = q + ((3 : Nat) : Int); omega
        · rw [e, h3.2.2, h2.2.2]; have := h3.1; rw [h2.2.2] at this; omega
    · have h2 := fg1_ok (yes_1.mp (show yes (fgV t z q 1 0 1) = 1 from h))
      have e : kP 100 t z q = fgP t z q 1 0 1 := rfl
      exact ⟨by decide, by rw [e, h2.2.2]; rfl, by rw [e, h2.2.2]; omega⟩
    · have h2 := fg1_ok (yes_1.mp (show yes (fgV t z q 1 0 1) = 1 from h))
      have e : kP 115 t z q = fgP t z q 1 0 1 := rfl
      exact ⟨by decide, by rw [e, h2.2.2]; rfl, by rw [e, h2.2.2]; omega⟩
    · have := (kO_no t z q hno).1
      omega
theorem kP_len2 {c : Int} {t : Int → Int} {z q : Int} (h : kO c t z q = 1) : fmI c ≠ -1 ∧ kP c t z q = q + (txL (fmI c).toNat : Nat) := by
  rcases kP_len h with h2 | ⟨rfl, h2⟩
  · exact ⟨h2.1, h2.2.1⟩
  · exact ⟨by decide, by rw [h2]; show q = q + ((0 : Nat) : Int); omega⟩
/-- the two readings tell the same place -/
theorem aE_rt (t : Int → Int) (z : Int) : ∀ (m n fi k : Nat) (p : Int), txL fi ≤ k → z - p ≤ n → z - p ≤ m → aE t z n fi k p = rtE t z m p := by
  intro m
  induction m with
  | zero =>
    intro n fi k p hk hn hm
    have hp : ¬ p < z := by omega
    rw [aE_out hp, if_neg (by omega)]
    rfl
  | succ m ih =>
    intro n fi k p hk hn hm
    by_cases hp : p < z
    · rw [aE_new hp hn hk, rtE, if_pos hp]
      obtain ⟨c, hc⟩ : ∃ c : Int, t p = c := ⟨_, rfl⟩
      rw [hc]
      have fin : kO c t z (p + 1) = 1 → ∀ (n2 fi2 k2 : Nat) (p2 : Int), txL fi2 ≤ k2 → z - p2 ≤ n2 → kP c t z (p + 1) = p2 → p2 > p → aE t z n2 fi2 k2 p2 = (if kO c t z (p + 1) = 1 then rtE t z m (kP c t z (p + 1)) else kP c t z (p + 1)) := fun ho n2 fi2 k2 p2 a b e d => by
        rw [if_pos ho, e]
        exact ih n2 fi2 k2 p2 a b (by omega)
      have bad : kO c t z (p + 1) = 0 → kP c t z (p + 1) = (if kO c t z (p + 1) = 1 then rtE t z m (kP c t z (p + 1)) else kP c t z (p + 1)) := fun ho => by
        rw [if_neg (by omega)]
      have two : ∀ (lo ch : Int) (f : Nat), txL f = 2 → txC f 0 = 116 → txC f 1 = ch → ((ch = 117 ∧ lo = 0) ∨ (ch = 112 ∧ lo = 1)) → kO c t z (p + 1) = yes (fgV t z (p + 1) 2 lo 15) → kP c t z (p + 1) = fgP t z (p + 1) 2 lo 15 → aE t z (n - 1) f 0 (p + 1) = (if kO c t z (p + 1) = 1 then rtE t z m (kP c t z (p + 1)) else kP c t z (p + 1)) := fun lo ch f h2 h3 h4 h5 h6 h7 => by
        rw [aE_d2 (by omega) (by omega) (by omega) h3 h4 h5]
        split
        · next hv => rw [← h7]; exact bad (by rw [h6]; exact yes_0 hv)
        · next hv =>
          have h8 := fg2_ok hv
          exact fin (by rw [h6]; exact yes_1.mpr hv) _ _ _ _ (by omega) (by omega) (by rw [h7, h8.2.2]) (by omega)
      have one : ∀ f : Nat, txL f = 1 → txC f 0 = 122 → kO c t z (p + 1) = yes (fgV t z (p + 1) 1 0 1) → kP c t z (p + 1) = fgP t z (p + 1) 1 0 1 → aE t z (n - 1) f 0 (p + 1) = (if kO c t z (p + 1) = 1 then rtE t z m (kP c t z (p + 1)) else kP c t z (p + 1)) := fun f h2 h3 h6 h7 => by
        rw [aE_d1 (by omega) (by omega) (by omega) h3 (Or.inl ⟨rfl, rfl, rfl⟩)]
        split
        · next hv => rw [← h7]; exact bad (by rw [h6]; exact yes_0 hv)
        · next hv =>
          have h8 := fg1_ok hv
          exact fin (by rw [h6]; exact yes_1.mpr hv) _ _ _ _ (by omega) (by omega) (by rw [h7, h8.2.2]) (by omega)
      rcases (show c = 106 ∨ c = 98 ∨ c = 116 ∨ c = 99 ∨ c = 109 ∨ c = 103 ∨ c = 100 ∨ c = 115 ∨ c = 114 ∨ (c ≠ 106 ∧ c ≠ 98 ∧ c ≠ 116 ∧ c ≠ 99 ∧ c ≠ 109 ∧ c ≠ 103 ∧ c ≠ 100 ∧ c ≠ 115 ∧ c ≠ 114) by omega) with rfl | rfl | rfl | rfl | rfl | rfl | rfl | rfl | rfl | hno
      · -- a jewel
        rw [if_neg (by decide)]
        show aE t z (n - 1) 1 0 (p + 1) = _
        have eO : kO 106 t z (p + 1) = rjO t z (p + 1) := rfl
        have eP : kP 106 t z (p + 1) = rjP t z (p + 1) := rfl
        have ek : kdF t z (p + 1) = if p + 1 < z then t (p + 1) - 97 else -1 := rfl
        by_cases hz : p + 1 < z
        · rw [if_pos hz] at ek
          have ef : fitF (txC 1 0) (t (p + 1)) (t (p + 1 - 1)) = if 97 ≤ t (p + 1) ∧ t (p + 1) ≤ 100 then 1 else 0 := rfl
          rw [aE_fit hz (by omega) (by decide), ef]
          by_cases hk2 : 97 ≤ t (p + 1) ∧ t (p + 1) ≤ 100
          · have hkd : 0 ≤ kdF t z (p + 1) ∧ kdF t z (p + 1) ≤ 3 := by omega
            rw [if_pos hk2, if_neg (by decide), aE_d1 (lo := 1) (hi := 9) (ch := 119) (by omega) (by omega) (by decide) (by decide) (Or.inr (Or.inr ⟨rfl, rfl, rfl⟩))]
            have eP2 : rjP t z (p + 1) = fgP t z (p + 1 + 1) 1 1 9 := if_pos hkd
            have eO2 : rjO t z (p + 1) = yes (fgV t z (p + 1 + 1) 1 1 9) := if_pos hkd
            split
            · next hv => rw [← eP2, ← eP]; exact bad (by rw [eO, eO2]; exact yes_0 hv)
            · next hv =>
              have h8 := fg1_ok hv
              exact fin (by rw [eO, eO2]; exact yes_1.mpr hv) _ _ _ _ (by decide) (by omega) (by rw [eP, eP2, h8.2.2]) (by omega)
          · have hkd : ¬ (0 ≤ kdF t z (p + 1) ∧ kdF t z (p + 1) ≤ 3) := by omega
            have eP2 : rjP t z (p + 1) = p + 1 := if_neg hkd
            have eO2 : rjO t z (p + 1) = 0 := if_neg hkd
            rw [if_neg hk2, if_pos rfl]
            have := bad (by rw [eO, eO2])
            rw [eP, eP2] at this
            rw [eP, eP2]
            exact this
        · rw [if_neg hz] at ek
          have hkd : ¬ (0 ≤ kdF t z (p + 1) ∧ kdF t z (p + 1) ≤ 3) := by omega
          have eP2 : rjP t z (p + 1) = p + 1 := if_neg hkd
          have eO2 : rjO t z (p + 1) = 0 := if_neg hkd
          rw [aE_out hz, if_pos (by decide), show z = p + 1 by omega]
          rw [show z = p + 1 by omega] at eP eP2 eO eO2 bad
          have := bad (by rw [eO, eO2])
          rw [eP, eP2] at this
          rw [eP, eP2]
          exact this
      · rw [if_neg (by decide)]; exact two 0 117 2 (by decide) (by decide) (by decide) (Or.inl ⟨rfl, rfl⟩) rfl rfl
      · rw [if_neg (by decide)]; exact two 0 117 2 (by decide) (by decide) (by decide) (Or.inl ⟨rfl, rfl⟩) rfl rfl
      · rw [if_neg (by decide)]; exact two 1 112 3 (by decide) (by decide) (by decide) (Or.inr ⟨rfl, rfl⟩) rfl rfl
      · rw [if_neg (by decide)]; exact two 1 112 3 (by decide) (by decide) (by decide) (Or.inr ⟨rfl, rfl⟩) rfl rfl
      · -- a gift
        rw [if_neg (by decide)]
        show aE t z (n - 1) 4 0 (p + 1) = _
        have eO : kO 103 t z (p + 1) = (if fgV t z (p + 1) 2 0 15 = -1 then 0 else yes (fgV t z (fgP t z (p + 1) 2 0 15) 1 0 2)) := rfl
        have eP : kP 103 t z (p + 1) = (if fgV t z (p + 1) 2 0 15 = -1 then fgP t z (p + 1) 2 0 15 else fgP t z (fgP t z (p + 1) 2 0 15) 1 0 2) := rfl
        rw [aE_d2 (lo := 0) (ch := 117) (by omega) (by omega) (by decide) (by decide) (by decide) (Or.inl ⟨rfl, rfl⟩)]
        by_cases hv : fgV t z (p + 1) 2 0 15 = -1
        · rw [if_pos hv] at eO eP
          rw [if_pos hv, ← eP]
          exact bad eO
        · have h8 := fg2_ok hv
          rw [if_neg hv] at eO eP
          rw [if_neg hv, aE_d1 (lo := 0) (hi := 2) (ch := 111) (by omega) (by omega) (by decide) (by decide) (Or.inr (Or.inl ⟨rfl, rfl, rfl⟩))]
          rw [h8.2.2] at eO eP
          split
          · next hv2 => rw [← eP]; exact bad (by rw [eO]; exact yes_0 hv2)
          · next hv2 =>
            have h9 := fg1_ok hv2
            exact fin (by rw [eO]; exact yes_1.mpr hv2) _ _ _ _ (by decide) (by omega) (by rw [eP, h9.2.2]) (by omega)
      · rw [if_neg (by decide)]; exact one 5 (by decide) (by decide) rfl rfl
      · rw [if_neg (by decide)]; exact one 5 (by decide) (by decide) rfl rfl
      · rw [if_neg (by decide)]
        exact fin rfl _ _ _ _ (by decide) (by omega) rfl (by omega)
      · have hf : fmI c = -1 := by
          unfold fmI
          (repeat' split) <;> omega
        have h2 := kO_no t z (p + 1) hno
        rw [if_pos hf]
        have := bad h2.1
        rw [h2.2] at this
        rw [h2.2]
        rw [show p + 1 - 1 = p by omega] at this ⊢
        exact this
    · rw [aE_out hp, if_neg (by omega), rtE, if_neg hp]
theorem aE_err (t : Int → Int) {z : Int} (hz : z ≤ 120) : aE t z 120 0 0 1 = rtE t z 120 1 := aE_rt t z 120 120 0 0 1 (by decide) (by omega) (by omega)
