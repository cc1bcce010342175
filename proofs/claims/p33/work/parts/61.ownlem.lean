theorem c_lf {Y : gY} {l : Launch} {g : Int → Int} (hw : wf g) (m : Nat) (hm6 : m ≤ 6) : ∀ (jq : Nat) (S : SS) (r : Nat) (t : Int → Int), wd S g → preW (g 0) r t → r + jq = m → gM Y l (mX0_leastFrom jq) S [.ref (yA Y 77), .int (iI (m : Int)), .int (iI (r : Int)), .int (iI (lst t r)), .long (lI (pkF (fun k => fsP g k t r)))] (pV (.int (iI (lgV g m r t))) (fun S' => S' = S)) := by
  intro jq
  induction jq with
  | zero => exact fun S r t hd ht hr => c_X0_leastFrom hw m hm6 0 (fun _ _ _ h => absurd rfl h) hd r t ht hr
  | succ jq ih => exact fun S r t hd ht hr => c_X0_leastFrom hw m hm6 (jq + 1) (fun S r t _ hd ht hr => ih S r t hd ht hr) hd r t ht hr
theorem c_lf0 {Y : gY} {l : Launch} {S : SS} {g : Int → Int} (hd : wd S g) (hw : wf g) (m : Nat) (hm6 : m ≤ 6) : gM Y l (mX0_leastFrom m) S [.ref (yA Y 77), .int (iI (m : Int)), .int (iI 0), .int (iI 0), .long (lI 0)] (pV (.int (iI (lgF g m))) (fun S' => S' = S)) := by
  have h := c_lf (Y := Y) (l := l) hw m hm6 m S 0 (fun _ => 0) hd (fun i hi => absurd hi (Nat.not_lt_zero i)) (by omega)
  rw [show pkF (fun k => fsP g k (fun _ => 0) 0) = 0 from pz_0, lgV_of (lgF_mn hw m hm6)] at h
  exact h
/-! OWNERS of the places as a set: what it has, how often the owner changes -/
def owE (g : Int → Int) (w : Nat) (k p : Int) : Int := if w.testBit p.toNat = true then ahE g k p else 0
def owS (g : Int → Int) (w : Nat) (k : Int) : Int := sm (owE g w k) (g 0).toNat
theorem owS_R {g : Int → Int} (hw : wf g) (w : Nat) : pkR (owS g w) 32768 := fun k _ _ => by
  have hn := hw.1
  have h1 := sm_bd (f := owE g w k) (c := 9) (n := (g 0).toNat) (fun p h0 h1 => by
    have := ahE_in hw k (p := p) h0 (by omega)
    unfold owE
    split <;> omega)
  unfold owS
  omega
theorem sm_add {f h : Int → Int} : ∀ n : Nat, sm (fun p => f p + h p) n = sm f n + sm h n
  | 0 => rfl
  | n + 1 => by rw [sm_s, sm_s, sm_s, sm_add n]; omega
theorem sm_one (q : Nat) (x : Int) : ∀ n : Nat, sm (fun p => if p = q then x else 0) n = if q < n then x else 0
  | 0 => rfl
  | n + 1 => by
    rw [sm_s, sm_one q x n]
    by_cases h : q < n
    · rw [if_pos h, if_neg (by omega), if_pos (by omega)]; omega
    · rw [if_neg h]
      by_cases h2 : n = q
      · rw [if_pos (by omega), if_pos (by omega)]; omega
      · rw [if_neg (by omega), if_neg (by omega)]; omega
/-- one place given over -/
theorem owS_x (g : Int → Int) (w q : Nat) (k : Int) (hq : (q : Int) < g 0) : owS g (w ^^^ 2 ^ q) k = owS g w k + (if (w ^^^ 2 ^ q).testBit q = true then ahE g k q else -(ahE g k q)) := by
  have e : owE g (w ^^^ 2 ^ q) k = fun p => if 0 ≤ p then owE g w k p + (if p = q then (if (w ^^^ 2 ^ q).testBit q = true then ahE g k q else -(ahE g k q)) else 0) else owE g (w ^^^ 2 ^ q) k p := by
    funext p
    by_cases h0 : 0 ≤ p
    · rw [if_pos h0]
      obtain ⟨m, rfl⟩ := Int.eq_ofNat_of_zero_le h0
      by_cases h : m = q
      · subst h
        rw [if_pos rfl]
        unfold owE
        rw [show ((m : Int)).toNat = m from rfl, tb_xor, decide_eq_true (rfl : m = m)]
        cases w.testBit m <;> simp <;> omega
      · rw [if_neg (by omega)]
        unfold owE
        rw [show ((m : Int)).toNat = m from rfl, tb_xor, decide_eq_false (show ¬ q = m from fun z => h z.symm), Bool.xor_false]
        omega
    · rw [if_neg h0]
  unfold owS
  rw [sm_cong (f := owE g (w ^^^ 2 ^ q) k) (g := fun p => owE g w k p + (if p = q then (if (w ^^^ 2 ^ q).testBit q = true then ahE g k q else -(ahE g k q)) else 0)) (fun p h0 _ => by rw [e]; exact if_pos h0), sm_add, sm_one, if_pos (by omega)]
theorem owS_0 (g : Int → Int) (k : Int) : owS g 0 k = 0 := by
  have e : owE g 0 k = fun _ => 0 := by
    funext p
    unfold owE
    rw [Nat.zero_testBit, if_neg (by decide)]
  unfold owS
  rw [e, sm_const]
  omega
theorem owS_c {g : Int → Int} {w v : Nat} (h : ∀ p : Nat, (p : Int) < g 0 → w.testBit p = v.testBit p) (hn : 0 ≤ g 0) (k : Int) : owS g w k = owS g v k := by
  unfold owS
  refine sm_cong (fun p h0 h1 => ?_)
  unfold owE
  rw [h p.toNat (by omega)]
/-- both sisters together -/
theorem owS_t {g : Int → Int} {w v : Nat} (h : ∀ p : Nat, (p : Int) < g 0 → w.testBit p = !v.testBit p) (hn : 0 ≤ g 0) (k : Int) : owS g w k + owS g v k = ahF g k (g 0).toNat := by
  unfold owS ahF
  rw [← sm_add]
  refine sm_cong (fun p h0 h1 => ?_)
  unfold owE
  rw [h p.toNat (by omega)]
  cases v.testBit p.toNat <;> simp
/-- cuts as a set -/
theorem cn_or (c q : Nat) (hb : c.testBit q = false) : ∀ n : Nat, cn (c ||| 2 ^ q) n = cn c n + (if q < n then 1 else 0)
  | 0 => rfl
  | n + 1 => by
    rw [cn_s, cn_s, cn_or c q hb n, Nat.testBit_or, Nat.testBit_two_pow]
    rcases Nat.lt_trichotomy q n with h | h | h
    · rw [decide_eq_false (show ¬ q = n by omega), Bool.or_false, if_pos h, if_pos (show q < n + 1 by omega)]
      omega
    · subst h
      rw [hb, decide_eq_true rfl, if_neg (show ¬ q < q by omega), if_pos (show q < q + 1 by omega)]
      simp
    · rw [decide_eq_false (show ¬ q = n by omega), Bool.or_false, if_neg (show ¬ q < n by omega), if_neg (show ¬ q < n + 1 by omega)]
      omega
/-- as many cuts are at most at p, as there are runs that begin there -/
theorem cn_ct {n : Int} {t : Int → Int} (hn : 0 ≤ n) : ∀ c : Nat, preW n c t → ∀ m : Nat, m ≤ c → ∀ p : Nat, lst t m ≤ p → (m < c → (p : Int) < t m) → cn (ctN t c) (p + 1) = m := by
  intro c
  induction c with
  | zero =>
    intro _ m hm p _ _
    rw [Nat.le_zero.mp hm]
    have : ∀ x : Nat, cn (ctN t 0) x = 0 := fun x => by
      induction x with
      | zero => rfl
      | succ x ih => rw [cn_s, ih, show ctN t 0 = 0 from rfl, Nat.zero_testBit]; rfl
    exact this _
  | succ c ih =>
    intro h m hm p h1 h2
    have h' := h.le (Nat.le_succ c)
    have htc := h c (by omega)
    have hl := preW_lst h' hn
    have hlo : ∀ i : Nat, i < c → t i ≤ lst t c := by
      intro i
      have key : ∀ j : Nat, i + j + 1 = c → t i ≤ lst t c := by
        intro j
        revert i
        induction j with
        | zero => intro i hi; rw [← hi, lst_s]; exact Int.le_refl _
        | succ j ihj =>
          intro i hi
          have a := ihj (i + 1) (by omega)
          have b := h (i + 1) (by omega)
          rw [lst_s] at b
          omega
      intro hi
      exact key (c - i - 1) (by omega)
    have hbit : (ctN t c).testBit (t c).toNat = false := by
      cases hb : (ctN t c).testBit (t c).toNat with
      | false => rfl
      | true =>
        obtain ⟨i, hi, e⟩ := (ctN_bit t c _).mp hb
        have := hlo i hi
        have := preW_at h hn (i := i) (by omega)
        omega
    rw [ctN, cn_or _ _ hbit]
    by_cases e : m = c + 1
    · subst e
      rw [lst_s] at h1
      rw [ih h' c (Nat.le_refl _) p (by omega) (fun z => absurd z (Nat.lt_irrefl c)), if_pos (by omega)]
    · have hm2 : m ≤ c := by omega
      have h3 := h2 (by omega)
      have h4 : (p : Int) < t c := by
        by_cases e2 : m = c
        · rw [← e2]; exact h3
        · have := hlo m (by omega); omega
      rw [ih h' m hm2 p h1 (fun z => h3), if_neg (by omega), Nat.add_zero]
/-- what the first sister has, place by place -/
def evE (g : Int → Int) (c : Nat) (k p : Int) : Int := if cn c (p.toNat + 1) % 2 = 0 then ahE g k p else 0
theorem sm_from (f : Int → Int) {a b : Nat} (h : a ≤ b) : sm f b = sm f a + sm (fun p => f (p + a)) (b - a) := by
  induction b with
  | zero => rw [Nat.le_zero.mp h]; rfl
  | succ b ih =>
    by_cases e : a = b + 1
    · subst e; rw [Nat.sub_self]; show _ = _ + 0; omega
    · rw [sm_s, ih (by omega), show b + 1 - a = (b - a) + 1 by omega, sm_s, show (((b - a : Nat) : Int) + a) = b by omega]
      omega
theorem fsP_ev {g : Int → Int} (hw : wf g) {c : Nat} {t : Int → Int} (h : preW (g 0) c t) (k : Int) : ∀ m : Nat, m ≤ c → fsP g k t m = sm (evE g (ctN t c) k) (lst t m).toNat := by
  have hn := hw.1
  intro m
  induction m with
  | zero => intro _; rfl
  | succ m ih =>
    intro hm
    have h1 := preW_lst (h.le (show m ≤ c by omega)) hn.1
    have h2 := h m (by omega)
    rw [fsP, ih (by omega), lst_s, sm_from (evE g (ctN t c) k) (a := (lst t m).toNat) (b := (t m).toNat) (by omega)]
    congr 1
    have hp : ∀ p : Int, 0 ≤ p → p < ((t m).toNat - (lst t m).toNat : Nat) → evE g (ctN t c) k (p + ((lst t m).toNat : Nat)) = if (m : Int) % 2 = 0 then ahE g k (p + ((lst t m).toNat : Nat)) else 0 := fun p p0 p1 => by
      unfold evE
      rw [cn_ct hn.1 c h m (by omega) (p + ((lst t m).toNat : Nat)).toNat (by omega) (fun _ => by omega)]
      by_cases e : m % 2 = 0
      · rw [if_pos e, if_pos (by omega)]
      · rw [if_neg e, if_neg (by omega)]
    rw [sm_cong hp]
    by_cases e : (m : Int) % 2 = 0
    · rw [if_pos e]
      have h3 := sm_from (ahE g k) (a := (lst t m).toNat) (b := (t m).toNat) (by omega)
      have h4 : sm (fun p => if (m : Int) % 2 = 0 then ahE g k (p + ((lst t m).toNat : Nat)) else 0) ((t m).toNat - (lst t m).toNat) = sm (fun p => ahE g k (p + ((lst t m).toNat : Nat))) ((t m).toNat - (lst t m).toNat) := sm_cong (fun p _ _ => if_pos e)
      rw [h4]
      unfold ahF
      omega
    · rw [if_neg e]
      have h4 : sm (fun p => if (m : Int) % 2 = 0 then ahE g k (p + ((lst t m).toNat : Nat)) else 0) ((t m).toNat - (lst t m).toNat) = sm (fun _ => 0) ((t m).toNat - (lst t m).toNat) := sm_cong (fun p _ _ => if_neg e)
      rw [h4, sm_const]
      omega
theorem fsE_ev {g : Int → Int} (hw : wf g) {c : Nat} {t : Int → Int} (h : preW (g 0) c t) (k : Int) : fsE g c t k = sm (evE g (ctN t c) k) (g 0).toNat := by
  have hn := hw.1
  have h1 := preW_lst h hn.1
  rw [sm_from (evE g (ctN t c) k) (a := (lst t c).toNat) (b := (g 0).toNat) (by omega), ← fsP_ev hw h k c (Nat.le_refl _)]
  have hp : ∀ p : Int, 0 ≤ p → p < ((g 0).toNat - (lst t c).toNat : Nat) → evE g (ctN t c) k (p + ((lst t c).toNat : Nat)) = if (c : Int) % 2 = 0 then ahE g k (p + ((lst t c).toNat : Nat)) else 0 := fun p p0 p1 => by
    unfold evE
    rw [cn_ct hn.1 c h c (Nat.le_refl _) (p + ((lst t c).toNat : Nat)).toNat (by omega) (fun z => absurd z (Nat.lt_irrefl c))]
    by_cases e : c % 2 = 0
    · rw [if_pos e, if_pos (by omega)]
    · rw [if_neg e, if_neg (by omega)]
  rw [sm_cong hp]
  unfold fsE wrF
  by_cases e : (c : Int) % 2 = 0
  · rw [if_pos e]
    show fsP g k t c + ahF g k (g 0).toNat - ahF g k (lst t c).toNat = _
    have h3 := sm_from (ahE g k) (a := (lst t c).toNat) (b := (g 0).toNat) (by omega)
    have h4 : sm (fun p => if (c : Int) % 2 = 0 then ahE g k (p + ((lst t c).toNat : Nat)) else 0) ((g 0).toNat - (lst t c).toNat) = sm (fun p => ahE g k (p + ((lst t c).toNat : Nat))) ((g 0).toNat - (lst t c).toNat) := sm_cong (fun p _ _ => if_pos e)
    rw [h4]
    unfold ahF
    omega
  · rw [if_neg e]
    show fsP g k t c = _
    have h4 : sm (fun p => if (c : Int) % 2 = 0 then ahE g k (p + ((lst t c).toNat : Nat)) else 0) ((g 0).toNat - (lst t c).toNat) = sm (fun _ => 0) ((g 0).toNat - (lst t c).toNat) := sm_cong (fun p _ _ => if_neg e)
    rw [h4, sm_const]
    omega
