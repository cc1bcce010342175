/-! PICTURES: all that later calls can tell of an object, as one value -/
abbrev PT : Type := (Int → Int) × (Nat → Int → Int) × Int × Int × Int × Int
def pG (P : PT) : Int → Int := P.1
def pR (P : PT) : Nat → Int → Int := P.2.1
def pN (P : PT) : Int := P.2.2.1
def pK (P : PT) : Int := P.2.2.2.1
def pF (P : PT) : Int := P.2.2.2.2.1
def pF2 (P : PT) : Int := P.2.2.2.2.2
def picOf (S : SS) : PT := (vw S 0, (fun i => if i < 16 then vw S (i + 2) else fun _ => 0), S 75 0, S 75 1, S 80 0, S 81 0)
def INV (S : SS) : Prop := S 78 0 = 0 ∧ (0 ≤ S 73 0 ∧ S 73 0 ≤ 120) ∧ ∀ c : Int, 0 ≤ c → c < 120 → 0 ≤ S 74 c ∧ S 74 c ≤ 255
def PK (P : PT) (S : SS) : Prop := picOf S = P ∧ INV S
/-- the other object's cells stay -/
def kp (S S' : SS) : Prop := ∀ m : Nat, 82 ≤ m → S' m = S m
theorem kp_r (S : SS) : kp S S := fun _ _ => rfl
theorem kp_t {S S1 S2 : SS} (h1 : kp S S1) (h2 : kp S1 S2) : kp S S2 := fun m h => (h2 m h).trans (h1 m h)
theorem vw_eq {S S' : SS} {i : Nat} (h : ∀ m : Nat, 4 * i ≤ m → m < 4 * i + 4 → S' m = S m) : vw S' i = vw S i := by
  funext c
  unfold vw
  rw [h (4 * i) (by omega) (by omega), h (4 * i + 1) (by omega) (by omega), h (4 * i + 2) (by omega) (by omega), h (4 * i + 3) (by omega) (by omega)]
theorem PK_g {P : PT} {S : SS} (h : PK P S) : vw S 0 = pG P := by rw [← h.1]; rfl
theorem PK_N {P : PT} {S : SS} (h : PK P S) : S 75 0 = pN P := by rw [← h.1]; rfl
theorem PK_K {P : PT} {S : SS} (h : PK P S) : S 75 1 = pK P := by rw [← h.1]; rfl
theorem PK_F {P : PT} {S : SS} (h : PK P S) : S 80 0 = pF P := by rw [← h.1]; rfl
theorem PK_F2 {P : PT} {S : SS} (h : PK P S) : S 81 0 = pF2 P := by rw [← h.1]; rfl
theorem PK_R {P : PT} {S : SS} (h : PK P S) {i : Nat} (hi : i < 16) : vw S (i + 2) = pR P i := by rw [← h.1]; exact (if_pos hi).symm
theorem PK_of {P : PT} {S : SS} (hi : INV S) (h0 : vw S 0 = pG P) (hr : ∀ i : Nat, i < 16 → vw S (i + 2) = pR P i) (hz : ∀ i : Nat, 16 ≤ i → pR P i = fun _ => 0) (hN : S 75 0 = pN P) (hK : S 75 1 = pK P) (hF : S 80 0 = pF P) (hF2 : S 81 0 = pF2 P) : PK P S := by
  refine ⟨?_, hi⟩
  obtain ⟨g, r, n, k, f, f2⟩ := P
  have e : (fun i => if i < 16 then vw S (i + 2) else fun _ => 0) = r := by
    funext i
    by_cases h : i < 16
    · rw [if_pos h]; exact hr i h
    · rw [if_neg h]; exact (hz i (by omega)).symm
  show (vw S 0, (fun i => if i < 16 then vw S (i + 2) else fun _ => 0), S 75 0, S 75 1, S 80 0, S 81 0) = _
  rw [e, h0, hN, hK, hF, hF2]
  rfl
theorem PK_z {P : PT} {S : SS} (h : PK P S) {i : Nat} (hi : 16 ≤ i) : pR P i = fun _ => 0 := by rw [← h.1]; exact if_neg (by omega)
theorem INV_k {S S' : SS} (h : INV S) (h8 : S' 78 0 = 0) (h3 : S' 73 = S 73) (h4 : S' 74 = S 74) : INV S' := by
  unfold INV
  rw [h3, h4]
  exact ⟨h8, h.2⟩
/-- a quiet call -/
theorem PK_q {P : PT} {S S' : SS} (h : PK P S) (hc : ∀ m : Nat, m < 82 → (m < 4 ∨ 8 ≤ m) → m ≠ 77 → m ≠ 78 → m ≠ 79 → S' m = S m) (h8 : S' 78 0 = 0) : PK P S' := by
  have k : ∀ m : Nat, 72 ≤ m → m < 77 ∨ 80 ≤ m → m < 82 → S' m = S m := fun m a b c => hc m c (by omega) (by omega) (by omega) (by omega)
  refine PK_of (INV_k h.2 h8 (k 73 (by omega) (by omega) (by omega)) (k 74 (by omega) (by omega) (by omega))) ?_ (fun i hi => ?_) (fun i hi => PK_z h hi) ?_ ?_ ?_ ?_
  · rw [vw_eq (S := S) (fun m a b => hc m (by omega) (by omega) (by omega) (by omega) (by omega))]; exact (PK_g h).trans rfl
  · rw [vw_eq (S := S) (fun m a b => hc m (by omega) (by omega) (by omega) (by omega) (by omega))]; exact PK_R h hi
  · rw [k 75 (by omega) (by omega) (by omega)]; exact (PK_N h).trans rfl
  · rw [k 75 (by omega) (by omega) (by omega)]; exact (PK_K h).trans rfl
  · rw [k 80 (by omega) (by omega) (by omega)]; exact (PK_F h).trans rfl
  · rw [k 81 (by omega) (by omega) (by omega)]; exact (PK_F2 h).trans rfl
def pPush (P : PT) (G : Int → Int) : PT := (G, (fun i => if i = 2 + (pN P).toNat then pG P else pR P i), hxN (pN P), hxC (pK P), pF P, pF2 P)
def pUndo (P : PT) : PT := (pR P (2 + (hxL (pN P)).toNat), pR P, hxL (pN P), pK P - 1, pF P, pF2 P)
def pSave (P : PT) (s : Int) : PT := (pG P, (fun i => if i = s.toNat then pG P else pR P i), pN P, pK P, (if s = 0 then 1 else pF P), (if s = 1 then 1 else pF2 P))
def pRest (P : PT) (s : Int) : PT := (pR P s.toNat, pR P, pN P, 0, pF P, pF2 P)
/-- a change -/
theorem PK_h {P : PT} {S S' : SS} {G : Int → Int} (h : PK P S) (hn : 0 ≤ pN P ∧ pN P < 14) (h0 : vw S' 0 = G) (h1 : vw S' (4 + (S 75 0).toNat) = vw S 0) (h2 : S' 75 0 = hxN (S 75 0) ∧ S' 75 1 = hxC (S 75 1)) (h8 : S' 78 0 = 0) (hc : ∀ m : Nat, 4 ≤ m → m < 82 → m ≠ 75 → (m < 4 * (4 + (S 75 0).toNat) ∨ 4 * (4 + (S 75 0).toNat) + 4 ≤ m) → m ≠ 77 → m ≠ 78 → m ≠ 79 → S' m = S m) : PK (pPush P G) S' := by
  have eN := PK_N h
  rw [eN] at h1 hc
  have k : ∀ m : Nat, 72 ≤ m → m < 75 ∨ m = 76 ∨ 80 ≤ m → m < 82 → S' m = S m := fun m a b c => hc m (by omega) c (by omega) (by omega) (by omega) (by omega) (by omega)
  refine PK_of (INV_k h.2 h8 (k 73 (by omega) (by omega) (by omega)) (k 74 (by omega) (by omega) (by omega))) h0 (fun i hi => ?_) (fun i hi => ?_) ?_ ?_ ?_ ?_
  · show vw S' (i + 2) = if i = 2 + (pN P).toNat then pG P else pR P i
    by_cases e : i = 2 + (pN P).toNat
    · rw [if_pos e, show i + 2 = 4 + (pN P).toNat by omega, h1]; exact (PK_g h).trans rfl
    · rw [if_neg e]
      by_cases e2 : i < 2
      · rw [vw_eq (S := S) (fun m a b => hc m (by omega) (by omega) (by omega) (by omega) (by omega) (by omega) (by omega))]; exact PK_R h hi
      · rw [vw_eq (S := S) (fun m a b => hc m (by omega) (by omega) (by omega) (by omega) (by omega) (by omega) (by omega))]; exact PK_R h hi
  · show (if i = 2 + (pN P).toNat then pG P else pR P i) = _
    rw [if_neg (by omega)]; exact PK_z h hi
  · rw [h2.1, eN]; rfl
  · rw [h2.2, PK_K h]; rfl
  · rw [k 80 (by omega) (by omega) (by omega)]; exact (PK_F h).trans rfl
  · rw [k 81 (by omega) (by omega) (by omega)]; exact (PK_F2 h).trans rfl
theorem PK_ch {P : PT} {S S' : SS} {G : Int → Int} (h : PK P S) (hn : 0 ≤ pN P ∧ pN P < 14) (hc : chP S S' G) : PK (pPush P G) S' ∧ kp S S' := by
  have eN := PK_N h
  obtain ⟨a, b, c, d⟩ := hc
  exact ⟨PK_h h hn a b c (by rw [d 78 (by decide) (by decide) (by omega)]; exact h.2.1) (fun m m4 _ m5 mh _ _ _ => d m m4 m5 mh), fun m m8 => d m (by omega) (by omega) (by omega)⟩
theorem PK_dv {P : PT} {S S' : SS} (h : PK P S) (hn : 0 ≤ pN P ∧ pN P < 14) (hc : dvP S S') : PK (pPush P (dealG (lsT (pG P) (wyF (pG P)) (fewF (pG P)).toNat) 0)) S' ∧ kp S S' := by
  have eN := PK_N h
  obtain ⟨a, b, c, d, e⟩ := hc
  rw [PK_g h] at a
  exact ⟨PK_h h hn a b c d (fun m m4 _ m5 mh m7 m8 m9 => e m m4 m5 mh m7 m8 m9), fun m m8 => e m (by omega) (by omega) (by omega) (by omega) (by omega) (by omega)⟩
theorem PK_tb {P : PT} {S S' : SS} (h : PK P S) (hn : 0 ≤ pN P ∧ pN P < 14) (hc : tbP S S') : PK (pUndo P) S' ∧ kp S S' := by
  obtain ⟨a, ⟨b, c⟩, d⟩ := hc
  have hx : (hxL (pN P)).toNat < 14 := by unfold hxL; split <;> omega
  rw [PK_N h] at a b
  rw [PK_K h] at c
  refine ⟨PK_of (INV_k h.2 (by rw [d 78 (by decide) (by decide)]; exact h.2.1) (d 73 (by decide) (by decide)) (d 74 (by decide) (by decide))) ?_ (fun i hi => ?_) (fun i hi => PK_z h hi) b c ?_ ?_, fun m m8 => d m (by omega) (by omega)⟩
  · rw [a, show 4 + (hxL (pN P)).toNat = (2 + (hxL (pN P)).toNat) + 2 by omega]; exact PK_R h (by omega)
  · rw [vw_eq (S := S) (fun m a b => d m (by omega) (by omega))]; exact PK_R h hi
  · rw [d 80 (by decide) (by decide)]; exact (PK_F h).trans rfl
  · rw [d 81 (by decide) (by decide)]; exact (PK_F2 h).trans rfl
theorem PK_sv {P : PT} {S S' : SS} {s : Int} (h : PK P S) (hs : s = 0 ∨ s = 1) (hc : vw S' (2 + s.toNat) = vw S 0 ∧ S' (80 + s.toNat) 0 = 1 ∧ ∀ m : Nat, (m < 4 * (2 + s.toNat) ∨ 4 * (2 + s.toNat) + 4 ≤ m) → m ≠ 80 + s.toNat → S' m = S m) : PK (pSave P s) S' ∧ kp S S' := by
  obtain ⟨a, b, d⟩ := hc
  have k : ∀ m : Nat, 72 ≤ m → m < 80 → S' m = S m := fun m x y => d m (by omega) (by omega)
  refine ⟨PK_of (INV_k h.2 (by rw [k 78 (by decide) (by decide)]; exact h.2.1) (k 73 (by decide) (by decide)) (k 74 (by decide) (by decide))) ?_ (fun i hi => ?_) (fun i hi => ?_) ?_ ?_ ?_ ?_, fun m m8 => d m (by omega) (by omega)⟩
  · rw [vw_eq (S := S) (fun m a b => d m (by omega) (by omega))]; exact (PK_g h).trans rfl
  · show vw S' (i + 2) = if i = s.toNat then pG P else pR P i
    by_cases e : i = s.toNat
    · rw [if_pos e, show i + 2 = 2 + s.toNat by omega, a]; exact (PK_g h).trans rfl
    · rw [if_neg e, vw_eq (S := S) (fun m a b => d m (by omega) (by omega))]; exact PK_R h hi
  · show (if i = s.toNat then pG P else pR P i) = _
    rw [if_neg (by omega)]; exact PK_z h hi
  · rw [k 75 (by decide) (by decide)]; exact (PK_N h).trans rfl
  · rw [k 75 (by decide) (by decide)]; exact (PK_K h).trans rfl
  · show S' 80 0 = if s = 0 then 1 else pF P
    rcases hs with rfl | rfl
    · exact b
    · rw [d 80 (by decide) (by decide)]; exact (PK_F h).trans rfl
  · show S' 81 0 = if s = 1 then 1 else pF2 P
    rcases hs with rfl | rfl
    · rw [d 81 (by decide) (by decide)]; exact (PK_F2 h).trans rfl
    · exact b
theorem PK_rs {P : PT} {S S' : SS} {s : Int} (h : PK P S) (hs : s = 0 ∨ s = 1) (hc : vw S' 0 = vw S (2 + s.toNat) ∧ (S' 75 0 = S 75 0 ∧ S' 75 1 = 0) ∧ ∀ m : Nat, 4 ≤ m → m ≠ 75 → S' m = S m) : PK (pRest P s) S' ∧ kp S S' := by
  obtain ⟨a, ⟨b, c⟩, d⟩ := hc
  refine ⟨PK_of (INV_k h.2 (by rw [d 78 (by decide) (by decide)]; exact h.2.1) (d 73 (by decide) (by decide)) (d 74 (by decide) (by decide))) ?_ (fun i hi => ?_) (fun i hi => PK_z h hi) (b.trans ((PK_N h).trans rfl)) c ?_ ?_, fun m m8 => d m (by omega) (by omega)⟩
  · rw [a, show 2 + s.toNat = s.toNat + 2 by omega]; exact PK_R h (by omega)
  · rw [vw_eq (S := S) (fun m a b => d m (by omega) (by omega))]; exact PK_R h hi
  · rw [d 80 (by decide) (by decide)]; exact (PK_F h).trans rfl
  · rw [d 81 (by decide) (by decide)]; exact (PK_F2 h).trans rfl
theorem PK_id {P : PT} {S S' : SS} (h : PK P S) (e : S' = S) : PK P S' ∧ kp S S' := by
  subst e; exact ⟨h, kp_r _⟩
theorem PK_fr {P : PT} {S S' : SS} (h : PK P S) (e : fr S S' 1) : PK P S' ∧ kp S S' := ⟨PK_q h (fun m _ a _ _ _ => e m (by omega)) (by rw [e 78 (by omega)]; exact h.2.1), fun m a => e m (by omega)⟩
theorem PK_fd {P : PT} {S S' : SS} (h : PK P S) (e : fdv S S') : PK P S' ∧ kp S S' := ⟨PK_q h (fun m _ _ a b c => e.1 m a b c) e.2, fun m a => e.1 m (by omega) (by omega) (by omega)⟩
theorem PK_f1 {P : PT} {S S' : SS} (h : PK P S) (e : f1t S S' ∧ S' 78 0 = 0) : PK P S' ∧ kp S S' := ⟨PK_q h (fun m _ a b c d => e.1 m a b c d) e.2, fun m a => e.1 m (by omega) (by omega) (by omega) (by omega)⟩
/-- the second object, where the first one is called; and the other way round -/
theorem PK_o2 {Q : PT} {S S' : SS} (h : PK Q (sS S)) (k : kp S S') : PK Q (sS S') := by
  have e : ∀ m : Nat, m < 82 → sS S' m = sS S m := fun m hm => by
    show S' (sw m) = S (sw m)
    rw [sw_lo (by omega)]; exact k _ (by omega)
  exact PK_q h (fun m hm _ _ _ _ => e m hm) (by rw [e 78 (by omega)]; exact h.2.1)
theorem PK_o1 {P : PT} {S S' : SS} (h : PK P S) (k : kp (sS S) (sS S')) : PK P S' := by
  have e : ∀ m : Nat, m < 82 → S' m = S m := fun m hm => by
    have h2 := k (m + 100) (by omega)
    unfold sS at h2
    rwa [sw_hi (by omega) (by omega), show m + 100 - 100 = m by omega] at h2
  exact PK_q h (fun m hm _ _ _ _ => e m hm) (by rw [e 78 (by omega)]; exact h.2.1)
/-- what is so of every picture -/
def WF0 (P : PT) : Prop := wf (pG P) ∧ (0 ≤ pN P ∧ pN P < 14) ∧ (0 ≤ pK P ∧ pK P ≤ 14) ∧ (pF P = 0 ∨ pF P = 1) ∧ (pF2 P = 0 ∨ pF2 P = 1) ∧ ∀ i : Nat, i < 16 → wf (pR P i)
theorem WF_push {P : PT} (h : WF0 P) {G : Int → Int} (hG : wf G) : WF0 (pPush P G) := by
  obtain ⟨a, b, c, d, e, f⟩ := h
  refine ⟨hG, ?_, ?_, d, e, fun i hi => ?_⟩
  · show 0 ≤ hxN (pN P) ∧ hxN (pN P) < 14
    unfold hxN; split <;> omega
  · show 0 ≤ hxC (pK P) ∧ hxC (pK P) ≤ 14
    unfold hxC; split <;> omega
  · show wf (if i = 2 + (pN P).toNat then pG P else pR P i)
    split
    · exact a
    · exact f i hi
theorem WF_undo {P : PT} (h : WF0 P) (hk : 0 < pK P) : WF0 (pUndo P) := by
  obtain ⟨a, b, c, d, e, f⟩ := h
  have hx : 0 ≤ hxL (pN P) ∧ hxL (pN P) < 14 := by unfold hxL; split <;> omega
  refine ⟨f _ (by omega), hx, ?_, d, e, f⟩
  show 0 ≤ pK P - 1 ∧ pK P - 1 ≤ 14
  omega
theorem WF_save {P : PT} (h : WF0 P) (s : Int) : WF0 (pSave P s) := by
  obtain ⟨a, b, c, d, e, f⟩ := h
  refine ⟨a, b, c, ?_, ?_, fun i hi => ?_⟩
  · show (if s = 0 then 1 else pF P) = 0 ∨ (if s = 0 then 1 else pF P) = 1
    split
    · exact Or.inr rfl
    · exact d
  · show (if s = 1 then 1 else pF2 P) = 0 ∨ (if s = 1 then 1 else pF2 P) = 1
    split
    · exact Or.inr rfl
    · exact e
  · show wf (if i = s.toNat then pG P else pR P i)
    split
    · exact a
    · exact f i hi
theorem WF_rest {P : PT} (h : WF0 P) {s : Int} (hs : s = 0 ∨ s = 1) : WF0 (pRest P s) := by
  obtain ⟨a, b, c, d, e, f⟩ := h
  exact ⟨f _ (by omega), b, ⟨Int.le_refl _, (by decide : (0 : Int) ≤ 14)⟩, d, e, f⟩
/-- undone behind a change, the row is as before -/
theorem un_g (P : PT) (G : Int → Int) (h : WF0 P) : pG (pUndo (pPush P G)) = pG P := by
  obtain ⟨a, b, c, d, e, f⟩ := h
  show (if 2 + (hxL (hxN (pN P))).toNat = 2 + (pN P).toNat then pG P else pR P _) = pG P
  rw [if_pos]
  unfold hxL hxN
  split <;> split <;> omega
theorem hxC_pos {a : Int} (h : 0 ≤ a) : 0 < hxC a := by unfold hxC; split <;> omega
theorem pK_push (P : PT) (G : Int → Int) (h : WF0 P) : 0 < pK (pPush P G) := hxC_pos h.2.2.1.1
/-- how many jewels there are: at least b, and by at most one more from state to state -/
def hix (n : Int) (k : Nat) : Nat := ((n - 1 - k) % 14).toNat
def jc (P : PT) : Nat → Int
  | 0 => pG P 0
  | k + 1 => pR P (2 + hix (pN P) k) 0
def CH (b : Int) (P : PT) : Prop := b ≤ pG P 0 ∧ (pF P = 1 → b ≤ pR P 0 0) ∧ (pF2 P = 1 → b ≤ pR P 1 0) ∧ ∀ k : Nat, (k : Int) < pK P → jc P (k + 1) ≤ jc P k ∧ jc P k ≤ jc P (k + 1) + 1
theorem jc_push {P : PT} (h : WF0 P) (G : Int → Int) (k : Nat) (hk : (k : Int) < hxC (pK P)) : jc (pPush P G) (k + 1) = jc P k := by
  obtain ⟨a, b, c, d, e, f⟩ := h
  show (if 2 + hix (hxN (pN P)) k = 2 + (pN P).toNat then pG P else pR P (2 + hix (hxN (pN P)) k)) 0 = jc P k
  have hk2 : (k : Int) < 14 := by unfold hxC at hk; split at hk <;> omega
  cases k with
  | zero =>
    rw [if_pos]
    · rfl
    · unfold hix hxN; split <;> omega
  | succ k =>
    have e1 : hix (hxN (pN P)) (k + 1) = hix (pN P) k := by unfold hix hxN; split <;> omega
    have e2 : hix (pN P) k ≠ (pN P).toNat := by unfold hix; omega
    rw [e1, if_neg (by omega)]
    rfl
theorem CH_push {P : PT} {b : Int} {G : Int → Int} (h : WF0 P) (hc : CH b P) (h0 : pG P 0 ≤ G 0) (h1 : G 0 ≤ pG P 0 + 1) : CH b (pPush P G) := by
  obtain ⟨c1, c2, c3, c4⟩ := hc
  have hN := h.2.1
  refine ⟨Int.le_trans c1 h0, fun z => ?_, fun z => ?_, fun k hk => ?_⟩
  · show b ≤ (if 0 = 2 + (pN P).toNat then pG P else pR P 0) 0
    rw [if_neg (by omega)]; exact c2 z
  · show b ≤ (if 1 = 2 + (pN P).toNat then pG P else pR P 1) 0
    rw [if_neg (by omega)]; exact c3 z
  · have hk' : (k : Int) < hxC (pK P) := hk
    rw [jc_push h G k hk']
    cases k with
    | zero => exact ⟨h0, h1⟩
    | succ k =>
      have hk2 : ((k : Nat) : Int) < hxC (pK P) := by omega
      rw [jc_push h G k hk2]
      exact c4 k (by unfold hxC at hk'; split at hk' <;> omega)
theorem jc_undo {P : PT} (h : WF0 P) (k : Nat) : jc (pUndo P) k = jc P (k + 1) := by
  have hN := h.2.1
  cases k with
  | zero =>
    show pR P (2 + (hxL (pN P)).toNat) 0 = pR P (2 + hix (pN P) 0) 0
    rw [show (hxL (pN P)).toNat = hix (pN P) 0 by unfold hix hxL; split <;> omega]
  | succ k =>
    show pR P (2 + hix (hxL (pN P)) k) 0 = pR P (2 + hix (pN P) (k + 1)) 0
    rw [show hix (hxL (pN P)) k = hix (pN P) (k + 1) by unfold hix hxL; split <;> omega]
theorem CH_undo {P : PT} {b : Int} (h : WF0 P) (hc : CH b P) (hb : b ≤ pG (pUndo P) 0) : CH b (pUndo P) := by
  obtain ⟨c1, c2, c3, c4⟩ := hc
  refine ⟨hb, c2, c3, fun k hk => ?_⟩
  rw [jc_undo h, jc_undo h]
  exact c4 (k + 1) (by have : (k : Int) < pK P - 1 := hk; omega)
theorem CH_save {P : PT} {b : Int} {s : Int} (hc : CH b P) (hs : s = 0 ∨ s = 1) : CH b (pSave P s) := by
  obtain ⟨c1, c2, c3, c4⟩ := hc
  have hj : ∀ k : Nat, jc (pSave P s) k = jc P k := fun k => by
    cases k with
    | zero => rfl
    | succ k =>
      show (if 2 + hix (pN P) k = s.toNat then pG P else pR P (2 + hix (pN P) k)) 0 = pR P (2 + hix (pN P) k) 0
      rw [if_neg (by omega)]
  refine ⟨c1, fun z => ?_, fun z => ?_, fun k hk => by rw [hj, hj]; exact c4 k hk⟩
  · show b ≤ (if 0 = s.toNat then pG P else pR P 0) 0
    by_cases e : 0 = s.toNat
    · rw [if_pos e]; exact c1
    · rw [if_neg e]
      refine c2 ?_
      have z2 : (if s = 0 then 1 else pF P) = 1 := z
      rwa [if_neg (by omega)] at z2
  · show b ≤ (if 1 = s.toNat then pG P else pR P 1) 0
    by_cases e : 1 = s.toNat
    · rw [if_pos e]; exact c1
    · rw [if_neg e]
      refine c3 ?_
      have z2 : (if s = 1 then 1 else pF2 P) = 1 := z
      rwa [if_neg (by omega)] at z2
theorem CH_rest {P : PT} {b : Int} {s : Int} (hc : CH b P) (hs : s = 0 ∨ s = 1) (hf : (if s = 0 then pF P else pF2 P) = 1) : CH b (pRest P s) := by
  obtain ⟨c1, c2, c3, c4⟩ := hc
  refine ⟨?_, c2, c3, fun k hk => absurd (show (k : Int) < 0 from hk) (by omega)⟩
  rcases hs with rfl | rfl
  · exact c2 (by simpa using hf)
  · exact c3 (by simpa using hf)
