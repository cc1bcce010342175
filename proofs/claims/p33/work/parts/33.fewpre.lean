/-! FEWEST: what the reference's search leaves, and what the answers of the face are -/
def feE (g T : Int → Int) : Prop := isFe g (fewF g) ∧ (0 ≤ fewF g → lexL g (fewF g) T)
theorem feE_of {g T : Int → Int} {x : Int} (h : isFe g x) (ht : 0 ≤ x → lexL g x T) : fewF g = x ∧ feE g T := by
  have e := fewF_of h
  exact ⟨e, by rw [feE, e]; exact ⟨h, ht⟩⟩
theorem isFe_in {g : Int → Int} {x : Int} (h : isFe g x) : -1 ≤ x ∧ x ≤ 6 := by
  rcases h with ⟨a, _⟩ | ⟨⟨a, b⟩, _⟩ <;> omega
/-- nothing but the refusal, the trial row and the search's rows has changed -/
def fz (S : SS) (c : Int) (S' : SS) : Prop := ∀ m : Nat, m ≠ 85 → m ≠ 89 → m ≠ 90 → S' m = us S 82 (uq (S 82) 0 c) m
theorem fz_0 {S : SS} {c : Int} {D T : Int → Int} : fz S c (us (us (us S 82 (uq (S 82) 0 c)) 89 D) 90 T) := fun m _ h9 h0 => by rw [us_a h0, us_a h9]
theorem fz_n {S : SS} {c : Int} : fz S c (us S 82 (uq (S 82) 0 c)) := fun _ _ _ _ => rfl
def pS (S : SS) (c x : Int) : Option Value → SS → Prop := pV (.int (iI (if c = 0 then x else 0))) (fun S' => fz S c S')
theorem pS_0 {S : SS} {c x : Int} (h : c = 0) {y : Int} (hy : x = y) {S' : SS} (hf : fz S 0 S') : pS S c x (some (.int (iI y))) S' := by
  subst h; subst hy; exact ⟨rfl, hf⟩
theorem pS_n {S : SS} {c x : Int} (k : Int) (h : c = k) (hk : k ≠ 0) : pS S c x (some (.int (iI 0))) (us S 82 (uq (S 82) 0 k)) := by
  subst h; exact ⟨by rw [if_neg hk], fz_n⟩
theorem lexL_u {g : Int → Int} {c : Int} {t u : Int → Int} (c0 : 0 ≤ c) (h1 : lexL g c t) (h2 : lexL g c u) : agr c t u := by
  rcases difC t u c0 with h | h | h
  · exact h
  · exact absurd h (h2.2.2 t h1.1 h1.2.1)
  · exact absurd h (h1.2.2 u h2.1 h2.2.1)
noncomputable def wyF (g : Int → Int) : Int → Int := Classical.epsilon (fun T => lexL g (fewF g) T)
theorem wyF_of {g T : Int → Int} (h : lexL g (fewF g) T) (c0 : 0 ≤ fewF g) : agr (fewF g) (wyF g) T := lexL_u c0 (Classical.epsilon_spec (p := fun T => lexL g (fewF g) T) ⟨T, h⟩) h
noncomputable def divF (g : Int → Int) (k : Int) : Int := if k < fewF g then wyF g k else -1
noncomputable def lgF (g : Int → Int) : Nat → Int
  | 0 => leW g 0
  | n + 1 => if leW g ((n : Int) + 1) ≠ -1 ∧ leW g ((n : Int) + 1) < lgF g n then leW g ((n : Int) + 1) else lgF g n
/-- bestBreak: the best jewel and its fewest cuts, the first n tried -/
noncomputable def bbG (g : Int → Int) : Nat → Int × Int
  | 0 => (-1, 0)
  | n + 1 => if fewF (brkF g n) ≠ -1 ∧ ((bbG g n).1 = -1 ∨ fewF (brkF g n) < (bbG g n).2) then ((n : Int), fewF (brkF g n)) else bbG g n
theorem bbG_s1 (g : Int → Int) (n : Nat) : (bbG g (n + 1)).1 = if fewF (brkF g n) ≠ -1 ∧ ((bbG g n).1 = -1 ∨ fewF (brkF g n) < (bbG g n).2) then (n : Int) else (bbG g n).1 := by
  rw [bbG]; split <;> rfl
theorem bbG_s2 (g : Int → Int) (n : Nat) : (bbG g (n + 1)).2 = if fewF (brkF g n) ≠ -1 ∧ ((bbG g n).1 = -1 ∨ fewF (brkF g n) < (bbG g n).2) then fewF (brkF g n) else (bbG g n).2 := by
  rw [bbG]; split <;> rfl
theorem isLe_in {g : Int → Int} (hw : wf g) {c x : Int} (c0 : 0 ≤ c) (c1 : c ≤ 6) (h : isLe g c x) : -1 ≤ x ∧ x ≤ 4032 := by
  rcases h with ⟨a, _⟩ | ⟨a, ⟨t, ht, e⟩, _⟩
  · omega
  · have h2 : gapW g c t ≤ 4032 := (gapW_in hw ht c0 c1 4).2
    omega
theorem fz_s {S : SS} {c : Int} {Sx Sy : SS} {A D T : Int → Int} (h : fz S c Sx) (hf : fm (us Sx 85 A) Sy 85) : fz S c (us (us Sy 89 D) 90 T) := fun m h5 h9 h0 => by
  rw [us_a h0, us_a h9, hf m h5, us_a h5, h m h5 h9 h0]
def cd_m1 (k : Int) : Int := if 0 ≤ k then 0 else 1
def cd_04 (k : Int) : Int := if 0 ≤ k ∧ k ≤ 4 then 0 else 1
/-- undo, save, restore: what they leave where they don't throw -/
def unU (S : SS) : SS := us (us S 84 (cpF (S 84) (S 86) (54 * (S 82 2 - 1)) 0 54)) 82 (uq (uq (S 82) 0 0) 2 (S 82 2 - 1))
def saU (S : SS) (s : Int) : SS := us (us (us S 82 (uq (S 82) 0 0)) 87 (cpF (S 87) (S 84) 0 (54 * s) 54)) 88 (uq (S 88) s 1)
def reU (S : SS) (s : Int) : SS := us (us S 84 (cpF (S 84) (S 87) (54 * s) 0 54)) 82 (uq (uq (S 82) 0 0) 2 0)
def cd_undo (a : Int) : Int := if a = 0 then 1 else 0
def cd_rest (s z : Int) : Int := if 0 ≤ s ∧ s ≤ 1 then (if z = 0 then 2 else 0) else 1
/-- a method's end that changes the state: the answer and the state where it doesn't throw -/
def pU (S : SS) (c x : Int) (U : SS) : Option Value → SS → Prop := pV (.int (iI (if c = 0 then x else 0))) (fun S' => S' = if c = 0 then U else us S 82 (uq (S 82) 0 c))
theorem pU_0 {S : SS} {c x : Int} {U : SS} (h : c = 0) {y : Int} (hy : x = y) {S' : SS} (hS : S' = U) : pU S c x U (some (.int (iI y))) S' := by
  subst h; subst hy; exact ⟨rfl, hS⟩
theorem pU_n {S : SS} {c x : Int} {U : SS} (k : Int) (h : c = k) (hk : k ≠ 0) : pU S c x U (some (.int (iI 0))) (us S 82 (uq (S 82) 0 k)) := by
  subst h; exact ⟨by rw [if_neg hk], by rw [if_neg hk]⟩
