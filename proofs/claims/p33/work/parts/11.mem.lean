def gCls (ci : Nat) (C : String) (T : u_T) (N : Nat) (ty : Nat → FieldType) : Prop :=
  vwCl[ci]? = some (C, T, N) ∧ (∀ w ∈ u_ws C T N, w ∈ lw_g) ∧ (∀ k, k < N → parseFieldDescriptor (T k).2.2.1 = some (ty k)) ∧ ∀ a, a < N → ∀ b, b < N → a ≠ b → (T a).2.1 ≠ (T b).2.1
theorem lw_gsub {ws : List Cond} (h : (ws.all fun w => decide (w ∈ lw_tbl) && goodWord w) = true) : ∀ w ∈ ws, w ∈ lw_g := fun w hw => by
  have h1 := List.all_eq_true.mp h w hw
  simp only [Bool.and_eq_true, decide_eq_true_eq] at h1
  exact lw_gin h1.1 h1.2
theorem cls0 : gCls 0 RX0 TX0 4 tyX0 := ⟨rfl, lw_gsub (by decide +kernel), tyX0_ok, nmX0⟩
theorem cls1 : gCls 1 RX1 TX1 3 tyX1 := ⟨rfl, lw_gsub (by decide +kernel), tyX1_ok, nmX1⟩
theorem cls2 : gCls 2 RX2 TX2 9 tyX2 := ⟨rfl, lw_gsub (by decide +kernel), tyX2_ok, nmX2⟩
theorem cls3 : gCls 3 RX5 TX5 2 tyX5 := ⟨rfl, lw_gsub (by decide +kernel), tyX5_ok, nmX5⟩
theorem cls4 : gCls 4 RX6 TX6 2 tyX6 := ⟨rfl, lw_gsub (by decide +kernel), tyX6_ok, nmX6⟩
theorem cls5 : gCls 5 RX7 TX7 7 tyX7 := ⟨rfl, lw_gsub (by decide +kernel), tyX7_ok, nmX7⟩
section GM
variable {Y : gY} {X : gX} {S : SS} {own : String} {cc : ByteArray} {nL : Nat} {ret : Option FieldType} {k : Nat} {pc q : Nat} {L L' : List (Nat × Value)} {st : List Value}
theorem gH_put {s : State} {H H1 : Heap} {locs : List Loc} {n : Nat} {g : Int → Int} {e0 e : va_E} (hI : gI Y) (hH : gH Y s H locs S) (he0 : cw Y n (S n) = some e0) (he : cw Y n g = some e) (z : H1.size = H.size) (oq : ∀ q : Nat, q ≠ yA Y n → H1[q]? = H[q]?) (hat : va_at (yD Y) vwCl (yA Y n, e) H1) (j : Nat) : gH Y s H1 (locs ++ [⟨yA Y n, j⟩]) (us S n g) := by
  obtain ⟨h1, h2, h3, h4⟩ := hH
  refine ⟨fun m e' hm => ?_, by rw [z]; exact h2, fun q hq => ?_, fun lc hl => ?_⟩
  · by_cases hmn : m = n
    · subst hmn
      rw [us_eq, he] at hm
      cases hm
      exact hat
    · rw [us_ne _ _ hmn] at hm
      exact (h1 m e' hm).kept (oq _ fun z => hmn (hI.1 _ _ z))
  · rw [oq q (fun z => by have := hI.2 n; omega)]
    exact h3 q hq
  · rcases List.mem_append.mp hl with h | h
    · exact h4 lc h
    · rw [List.mem_singleton.mp h]
      exact hI.2 n
theorem g_get (B : gB Y X own cc nL ret k) {n i ci : Nat} {C : String} {T : u_T} {N : Nat} {ty : Nat → FieldType} {fs : List Value} {v : Value} (d : decode cc pc = .ok (.getfield i, 3)) (hq : pc + 3 = q) {g : Int → Int} (hg : S n = g) (he : cw Y n g = some (.inr (ci, fs))) (hc : gCls ci C T N ty) (f : Nat) (hf : f < N) (hw : Cond.fieldLink own i (T f).1 (T f).2.1 (T f).2.2.1 ∈ lw_g) (hv : fs[f]? = some v) (kk : gW Y X S q L (v :: st)) : gW Y X S pc L (.ref (yA Y n) :: st) := by
  subst hq
  intro H locs ls hH hl
  have hP : va_P (yD Y) vwCl [(yA Y n, .inr (ci, fs))] H := fun j q0 hj => by
    cases j with
    | zero => cases hj; exact hH.1 n _ (by rw [hg]; exact he)
    | succ j => simp at hj
  exact va_get B.1 B.2.1 B.2.2.2.2.2.1 hc.2.1 B.2.2.2.2.1 B.2.2.2.2.2.2.1.2.1 hP 0 rfl hc.1 f hf (B.2.2.2.2.2.1 _ hw) (fun _ h9 => h9) hv d (kk H locs ls hH hl)
theorem g_put (B : gB Y X own cc nL ret k) {n i ci : Nat} {C : String} {T : u_T} {N : Nat} {ty : Nat → FieldType} {fs : List Value} {v : Value} (d : decode cc pc = .ok (.putfield i, 3)) (hq : pc + 3 = q) {g : Int → Int} (hg : S n = g) (he : cw Y n g = some (.inr (ci, fs))) (hc : gCls ci C T N ty) (f : Nat) (hf : f < N) (hw : Cond.fieldLink own i (T f).1 (T f).2.1 (T f).2.2.1 ∈ lw_g) (hfin : (T f).2.2.2 = false) (hn : narrow (ty f) v = v) (hfit : fits (ty f) v = true) (hlen : f < fs.length) (g' : Int → Int) (he' : cw Y n g' = some (.inr (ci, fs.set f v))) (kk : gW Y X (us S n g') q L st) : gW Y X S pc L (v :: .ref (yA Y n) :: st) := by
  subst hq
  intro H locs ls hH hl
  have hC := B.2.2.2.2.2.2.1
  have hK := hC.2.1
  have hts := B.2.2.2.2.2.1
  have hat := hH.1 n _ (by rw [hg]; exact he)
  have hap := va_apart (own := own) hts hc.2.1 ty hc.2.2.1 hc.2.2.2 hK hc.1
  obtain ⟨r, h1, cell, q1, q2, q3, q4⟩ := hat
  have hr : r = (C, T, N) := Option.some.inj (h1.symm.trans hc.1)
  subst hr
  obtain ⟨hS, hfc, kC, hkC, hkind⟩ := hK.1 ci _ hc.1
  obtain ⟨cf, kf, fi, fl, hi, hsl⟩ := hS f hf
  have hlay := hts _ (hc.2.1 _ (u_in_lay hf))
  unfold u_lay at hlay
  rw [if_neg (by rw [hfin]; decide)] at hlay
  have hst := (u_facts hfc hkC (u_lays hts hc.2.1 hf) hi).1
  have h6 := u_store hfc hkC hkind hlay hi (hc.2.2.1 f hf) hn hfit
  refine W.putK B.1 B.2.1 (f := fl) ⟨B.2.2.2.2.1, hts _ hw, ⟨_, _, _, hi⟩, hst⟩ (by rw [q2]; exact h6) q1 q3 (by rw [hsl]; exact k2_hasslot (q4 f hf)) rfl rfl d fun H' e1 e2 e3 => ?_
  rw [hsl] at e1 ⊢
  exact kk H' _ ls (gH_put hC.1 hH (by rw [hg]; exact he) he' e2 e3 ⟨_, hc.1, t_OB.to (V := updV (vp_V fs) f v) ⟨_, e1, q2, q3, t_set q4 hap hf v⟩ (fun j _ => vp_updV_set hlen v j)⟩ _) hl
theorem g_in {a : Int} {N : Nat} (h0 : 0 ≤ a) (h1 : a < N) (hN : N < 2147483648) : vp_in (iI a) N ∧ (iI a).toNatClampNeg = a.toNat ∧ ((a.toNat : Nat) : Int) = a := ⟨iI_in h0 h1 hN, iI_clamp ⟨by omega, by omega⟩, Int.toNat_of_nonneg h0⟩
theorem g_ty (B : gB Y X own cc nL ret k) (t0 : Nat) {q : ClassId × FieldType} (h : (gTys Y)[t0]? = some q) : ArrOfT (xS X) q.1 q.2 := (B.2.2.2.2.2.2.1.2.1.2 t0 q h).1
theorem g_iald (B : gB Y X own cc nL ret k) {n N : Nat} {a : Int} (d : decode cc pc = .ok (.iaload, 1)) (hq : pc + 1 = q) {g : Int → Int} (hg : S n = g) (he : cw Y n g = some (cI Y N g)) (hN : N < 2147483648) (h0 : 0 ≤ a) (h1 : a < N) (kk : gW Y X S q L (.int (iI (g a)) :: st)) : gW Y X S pc L (.int (iI a) :: .ref (yA Y n) :: st) := by
  subst hq
  intro H locs ls hH hl
  obtain ⟨hin, hc, hn⟩ := g_in h0 h1 hN
  have hP : va_P (yD Y) vwCl [(yA Y n, cI Y N g)] H := fun j q0 hj => by
    cases j with
    | zero => cases hj; exact hH.1 n _ (by rw [hg]; exact he)
    | succ j => simp at hj
  refine va_iald B.1 B.2.1 B.2.2.2.2.2.2.1.2.1 hP 0 0 rfl rfl hin d ?_
  rw [hc, hn]
  exact kk H locs ls hH hl
theorem g_cald (B : gB Y X own cc nL ret k) {n N : Nat} {a : Int} (d : decode cc pc = .ok (.caload, 1)) (hq : pc + 1 = q) {g : Int → Int} (hg : S n = g) (he : cw Y n g = some (.inl (yC Y 1, N, .inl fun j => iI (g j)))) (hN : N < 2147483648) (h0 : 0 ≤ a) (h1 : a < N) (kk : gW Y X S q L (.int (iI (g a)) :: st)) : gW Y X S pc L (.int (iI a) :: .ref (yA Y n) :: st) := by
  subst hq
  intro H locs ls hH hl
  obtain ⟨hin, hc, hn⟩ := g_in h0 h1 hN
  have hP : va_P (yD Y) vwCl [(yA Y n, .inl (yC Y 1, N, .inl fun j => iI (g j)))] H := fun j q0 hj => by
    cases j with
    | zero => cases hj; exact hH.1 n _ (by rw [hg]; exact he)
    | succ j => simp at hj
  refine va_cald B.1 B.2.1 B.2.2.2.2.2.2.1.2.1 hP 0 1 rfl rfl hin d ?_
  rw [hc, hn]
  exact kk H locs ls hH hl
theorem g_lald (B : gB Y X own cc nL ret k) {n N : Nat} {a : Int} (d : decode cc pc = .ok (.laload, 1)) (hq : pc + 1 = q) {g : Int → Int} (hg : S n = g) (he : cw Y n g = some (.inl (yC Y 2, N, .inr (.inl fun j => lI (g j))))) (hN : N < 2147483648) (h0 : 0 ≤ a) (h1 : a < N) (kk : gW Y X S q L (.long (lI (g a)) :: st)) : gW Y X S pc L (.int (iI a) :: .ref (yA Y n) :: st) := by
  subst hq
  intro H locs ls hH hl
  obtain ⟨hin, hc, hn⟩ := g_in h0 h1 hN
  have hP : va_P (yD Y) vwCl [(yA Y n, .inl (yC Y 2, N, .inr (.inl fun j => lI (g j))))] H := fun j q0 hj => by
    cases j with
    | zero => cases hj; exact hH.1 n _ (by rw [hg]; exact he)
    | succ j => simp at hj
  refine va_lald B.1 B.2.1 B.2.2.2.2.2.2.1.2.1 hP 0 2 rfl rfl hin d ?_
  rw [hc, hn]
  exact kk H locs ls hH hl
theorem g_aald (B : gB Y X own cc nL ret k) {n N : Nat} {a : Int} {f : Nat → Option Nat} (d : decode cc pc = .ok (.aaload, 1)) (hq : pc + 1 = q) {g : Int → Int} (hg : S n = g) (he : cw Y n g = some (.inl (yC Y 4, N, .inr (.inr (.inr (.inr f)))))) (hN : N < 2147483648) (h0 : 0 ≤ a) (h1 : a < N) {x : Nat} (hx : f a.toNat = some x) (kk : gW Y X S q L (.ref x :: st)) : gW Y X S pc L (.int (iI a) :: .ref (yA Y n) :: st) := by
  subst hq
  intro H locs ls hH hl
  obtain ⟨hin, hc, hn⟩ := g_in h0 h1 hN
  have hP : va_P (yD Y) vwCl [(yA Y n, .inl (yC Y 4, N, .inr (.inr (.inr (.inr f)))))] H := fun j q0 hj => by
    cases j with
    | zero => cases hj; exact hH.1 n _ (by rw [hg]; exact he)
    | succ j => simp at hj
  refine va_aldq B.1 B.2.1 B.2.2.2.2.2.2.1.2.1 hP 0 4 rfl rfl hin d ?_
  rw [hc, hx]
  exact kk H locs ls hH hl
theorem g_alen (B : gB Y X own cc nL ret k) {n : Nat} (d : decode cc pc = .ok (.arraylength, 1)) (hq : pc + 1 = q) {g : Int → Int} (hg : S n = g) {cA : ClassId} {x : vp_A} (he : cw Y n g = some (.inl (cA, x))) (t0 : Nat) {ty : FieldType} (ht : (gTys Y)[t0]? = some (cA, ty)) {z : Int} (hz : Int32.ofNat x.1 = iI z) (kk : gW Y X S q L (.int (iI z) :: st)) : gW Y X S pc L (.ref (yA Y n) :: st) := by
  subst hq
  intro H locs ls hH hl
  have hP : va_P (yD Y) vwCl [(yA Y n, .inl (cA, x))] H := fun j q0 hj => by
    cases j with
    | zero => cases hj; exact hH.1 n _ (by rw [hg]; exact he)
    | succ j => simp at hj
  exact va_alen B.1 B.2.1 B.2.2.2.2.2.2.1.2.1 hP 0 t0 rfl ht hz d (kk H locs ls hH hl)
theorem uq_fun {β : Type} (f : Int → β) (g : Int → Int) {a x : Int} (h0 : 0 ≤ a) : (fun j : Nat => f (uq g a x j)) = fun j : Nat => if j = a.toNat then f x else f (g j) := by
  funext j
  by_cases h : (j : Int) = a
  · have h2 : j = a.toNat := by omega
    rw [if_pos h2, uq, if_pos h]
  · have h2 : ¬ j = a.toNat := by omega
    rw [if_neg h2, uq, if_neg h]
theorem g_iast (B : gB Y X own cc nL ret k) {n N : Nat} {a x : Int} (d : decode cc pc = .ok (.iastore, 1)) (hq : pc + 1 = q) {g : Int → Int} (hg : S n = g) (hw : ∀ g' : Int → Int, cw Y n g' = some (cI Y N g')) (hN : N < 2147483648) (h0 : 0 ≤ a) (h1 : a < N) (kk : gW Y X (us S n (uq g a x)) q L st) : gW Y X S pc L (.int (iI x) :: .int (iI a) :: .ref (yA Y n) :: st) := by
  subst hq
  intro H locs ls hH hl
  obtain ⟨hin, hc, hn⟩ := g_in h0 h1 hN
  have hC := B.2.2.2.2.2.2.1
  have he0 : cw Y n (S n) = some (cI Y N g) := by rw [hg]; exact hw g
  refine W.iast B.1 B.2.1 (hH.1 n _ he0) (g_ty B 0 rfl N (fun j => .int (iI (g j)))) (fun q => by cases q) (by show ¬ (iI a < 0 ∨ (arrV _ _ _).slots.size ≤ _); rw [arrV_size]; exact hin) rfl rfl d fun H1 e z oq => ?_
  refine kk H1 _ ls (gH_put hC.1 hH he0 (hw _) z oq ?_ _) hl
  show H1[yA Y n]? = some (vp_cell _ _)
  rw [e]
  show some ((vp_cell (yC Y 0) (N, .inl fun j => iI (g j))).setSlot _ _) = some (vp_cell (yC Y 0) (N, .inl fun j => iI (uq g a x j)))
  rw [uq_fun iI g h0, vp_cell_i, vp_cell_i, hc, arrV_store]
  congr 2
  funext j
  by_cases h : j = a.toNat <;> simp [updV, h]
theorem g_cast (B : gB Y X own cc nL ret k) {n N : Nat} {a x : Int} (d : decode cc pc = .ok (.castore, 1)) (hq : pc + 1 = q) {g : Int → Int} (hg : S n = g) (hw : ∀ g' : Int → Int, cw Y n g' = some (.inl (yC Y 1, N, .inl fun j => iI (g' j)))) (hN : N < 2147483648) (h0 : 0 ≤ a) (h1 : a < N) (hx : narrow .char (.int (iI x)) = .int (iI x)) (kk : gW Y X (us S n (uq g a x)) q L st) : gW Y X S pc L (.int (iI x) :: .int (iI a) :: .ref (yA Y n) :: st) := by
  subst hq
  intro H locs ls hH hl
  obtain ⟨hin, hc, hn⟩ := g_in h0 h1 hN
  have hC := B.2.2.2.2.2.2.1
  have he0 : cw Y n (S n) = some (.inl (yC Y 1, N, .inl fun j => iI (g j))) := by rw [hg]; exact hw g
  refine W.cast B.1 B.2.1 (hH.1 n _ he0) (g_ty B 1 rfl N (fun j => .int (iI (g j)))) (fun q => by cases q) (by show ¬ (iI a < 0 ∨ (arrV _ _ _).slots.size ≤ _); rw [arrV_size]; exact hin) rfl rfl d fun H1 e z oq => ?_
  refine kk H1 _ ls (gH_put hC.1 hH he0 (hw _) z oq ?_ _) hl
  show H1[yA Y n]? = some (vp_cell _ _)
  rw [e]
  show some ((vp_cell (yC Y 1) (N, .inl fun j => iI (g j))).setSlot _ _) = some (vp_cell (yC Y 1) (N, .inl fun j => iI (uq g a x j)))
  rw [uq_fun iI g h0, vp_cell_i, vp_cell_i, hc, arrV_store]
  congr 2
  funext j
  by_cases h : j = a.toNat <;> simp [updV, h, hx]
theorem g_last (B : gB Y X own cc nL ret k) {n N : Nat} {a x : Int} (d : decode cc pc = .ok (.lastore, 1)) (hq : pc + 1 = q) {g : Int → Int} (hg : S n = g) (hw : ∀ g' : Int → Int, cw Y n g' = some (.inl (yC Y 2, N, .inr (.inl fun j => lI (g' j))))) (hN : N < 2147483648) (h0 : 0 ≤ a) (h1 : a < N) (kk : gW Y X (us S n (uq g a x)) q L st) : gW Y X S pc L (.long (lI x) :: .int (iI a) :: .ref (yA Y n) :: st) := by
  subst hq
  intro H locs ls hH hl
  obtain ⟨hin, hc, hn⟩ := g_in h0 h1 hN
  have hC := B.2.2.2.2.2.2.1
  have he0 : cw Y n (S n) = some (.inl (yC Y 2, N, .inr (.inl fun j => lI (g j)))) := by rw [hg]; exact hw g
  refine W.last B.1 B.2.1 (hH.1 n _ he0) (g_ty B 2 rfl N (fun j => .long (lI (g j)))) (fun q => by cases q) (by show ¬ (iI a < 0 ∨ (arrV _ _ _).slots.size ≤ _); rw [arrV_size]; exact hin) rfl rfl d fun H1 e z oq => ?_
  refine kk H1 _ ls (gH_put hC.1 hH he0 (hw _) z oq ?_ _) hl
  show H1[yA Y n]? = some (vp_cell _ _)
  rw [e]
  show some ((vp_cell (yC Y 2) (N, .inr (.inl fun j => lI (g j)))).setSlot _ _) = some (vp_cell (yC Y 2) (N, .inr (.inl fun j => lI (uq g a x j))))
  rw [uq_fun lI g h0, vp_cell_l, vp_cell_l, hc, arrV_store]
  congr 2
  funext j
  by_cases h : j = a.toNat <;> simp [updV, h]
end GM
