theorem iI_add (a b : Int) : iI a + iI b = iI (a + b) := (Int32.ofInt_add a b).symm
theorem iI_sub (a b : Int) : iI a - iI b = iI (a - b) := (Int32.ofInt_sub a b).symm
theorem iI_mul (a b : Int) : iI a * iI b = iI (a * b) := (Int32.ofInt_mul a b).symm
theorem iI_neg (a : Int) : -iI a = iI (-a) := (Int32.ofInt_neg a).symm
theorem lI_add (a b : Int) : lI a + lI b = lI (a + b) := (Int64.ofInt_add a b).symm
theorem lI_sub (a b : Int) : lI a - lI b = lI (a - b) := (Int64.ofInt_sub a b).symm
theorem lI_mul (a b : Int) : lI a * lI b = lI (a * b) := (Int64.ofInt_mul a b).symm
theorem lI_neg (a : Int) : -lI a = lI (-a) := (Int64.ofInt_neg a).symm
def rI (a : Int) : Prop := -2147483648 ≤ a ∧ a < 2147483648
def rL (a : Int) : Prop := -9223372036854775808 ≤ a ∧ a < 9223372036854775808
theorem iI_toInt {a : Int} (h : rI a) : (iI a).toInt = a := by
  obtain ⟨h1, h2⟩ := h
  exact Int32.toInt_ofInt_of_le (by simpa using h1) (by simpa using h2)
theorem lI_toInt {a : Int} (h : rL a) : (lI a).toInt = a := by
  obtain ⟨h1, h2⟩ := h
  exact Int64.toInt_ofInt_of_le (by simpa using h1) (by simpa using h2)
theorem iI_self (x : Int32) : iI x.toInt = x := by rw [iI]; exact Int32.ofInt_toInt x
theorem lI_self (x : Int64) : lI x.toInt = x := by rw [lI]; exact Int64.ofInt_toInt x
theorem rI_toInt (x : Int32) : rI x.toInt := ⟨by have := Int32.le_toInt x; simpa using this, by have := Int32.toInt_lt x; simpa using this⟩
theorem rL_toInt (x : Int64) : rL x.toInt := ⟨by have := Int64.le_toInt x; simpa using this, by have := Int64.toInt_lt x; simpa using this⟩
theorem iI_lt {a b : Int} (ha : rI a) (hb : rI b) : iI a < iI b ↔ a < b := by rw [Int32.lt_iff_toInt_lt, iI_toInt ha, iI_toInt hb]
theorem iI_le {a b : Int} (ha : rI a) (hb : rI b) : iI a ≤ iI b ↔ a ≤ b := by rw [Int32.le_iff_toInt_le, iI_toInt ha, iI_toInt hb]
theorem iI_eq {a b : Int} (ha : rI a) (hb : rI b) : iI a = iI b ↔ a = b := by rw [← Int32.toInt_inj, iI_toInt ha, iI_toInt hb]
theorem lI_lt {a b : Int} (ha : rL a) (hb : rL b) : lI a < lI b ↔ a < b := by rw [Int64.lt_iff_toInt_lt, lI_toInt ha, lI_toInt hb]
theorem lI_le {a b : Int} (ha : rL a) (hb : rL b) : lI a ≤ lI b ↔ a ≤ b := by rw [Int64.le_iff_toInt_le, lI_toInt ha, lI_toInt hb]
theorem lI_eq {a b : Int} (ha : rL a) (hb : rL b) : lI a = lI b ↔ a = b := by rw [← Int64.toInt_inj, lI_toInt ha, lI_toInt hb]
theorem rI_0 : rI 0 := ⟨by decide, by decide⟩
theorem iI_nat (n : Nat) : iI (n : Int) = nI n := Int32.ofInt_eq_ofNat
theorem lI_nat (n : Nat) : lI (n : Int) = lN n := Int64.ofInt_eq_ofNat
theorem iI_clamp {a : Int} (h : rI a) : (iI a).toNatClampNeg = a.toNat := by
  show (iI a).toInt.toNat = _
  rw [iI_toInt h]
theorem iI_in {a : Int} {n : Nat} (h0 : 0 ≤ a) (h : a < n) (hn : n < 2147483648) : vp_in (iI a) n := by
  rw [vp_in_iff, iI_toInt ⟨by omega, by omega⟩]
  exact ⟨h0, h⟩
theorem iI_div {a b : Int} (h0 : 0 ≤ a) (h1 : a < 2147483648) (hb : 0 < b) (hb1 : b < 2147483648) : iI a / iI b = iI (a / b) := by
  obtain ⟨n, rfl⟩ := Int.eq_ofNat_of_zero_le h0
  obtain ⟨d, rfl⟩ := Int.eq_ofNat_of_zero_le (Int.le_of_lt hb)
  rw [iI_nat, iI_nat, pk_div (by omega) (by omega) (by omega), ← iI_nat]
  rfl
theorem iI_rem {a b : Int} (h0 : 0 ≤ a) (h1 : a < 2147483648) (hb : 0 < b) (hb1 : b < 2147483648) : iI a - iI a / iI b * iI b = iI (a % b) := by
  obtain ⟨n, rfl⟩ := Int.eq_ofNat_of_zero_le h0
  obtain ⟨d, rfl⟩ := Int.eq_ofNat_of_zero_le (Int.le_of_lt hb)
  rw [iI_nat, iI_nat, pk_rem (by omega) (by omega) (by omega), ← iI_nat]
  rfl
theorem lI_div {a b : Int} (h0 : 0 ≤ a) (h1 : a < 9223372036854775808) (hb : 0 < b) (hb1 : b < 9223372036854775808) : lI a / lI b = lI (a / b) := by
  obtain ⟨n, rfl⟩ := Int.eq_ofNat_of_zero_le h0
  obtain ⟨d, rfl⟩ := Int.eq_ofNat_of_zero_le (Int.le_of_lt hb)
  rw [lI_nat, lI_nat, pk_lDiv (by omega) (by omega) (by omega), ← lI_nat]
  rfl
theorem lI_rem {a b : Int} (h0 : 0 ≤ a) (h1 : a < 9223372036854775808) (hb : 0 < b) (hb1 : b < 9223372036854775808) : lI a - lI a / lI b * lI b = lI (a % b) := by
  obtain ⟨n, rfl⟩ := Int.eq_ofNat_of_zero_le h0
  obtain ⟨d, rfl⟩ := Int.eq_ofNat_of_zero_le (Int.le_of_lt hb)
  rw [lI_nat, lI_nat, pk_lRem (by omega) (by omega) (by omega), ← lI_nat]
  rfl
theorem iI_i2l {a : Int} (h : rI a) : (iI a).toInt64 = lI a := by
  rw [← Int64.toInt_inj, lI_toInt ⟨by have := h.1; omega, by have := h.2; omega⟩, Int32.toInt_toInt64, iI_toInt h]
theorem lI_l2i (a : Int) : (lI a).toInt32 = iI a := by rw [lI, iI]; exact Int64.toInt32_ofInt
def bI (P : Prop) [Decidable P] : Int32 := if P then 1 else 0
theorem bI_t {P : Prop} [Decidable P] (h : P) : bI P = 1 := if_pos h
theorem bI_f {P : Prop} [Decidable P] (h : ¬ P) : bI P = 0 := if_neg h
section GR
variable {Y : gY} {X : gX} {S : SS} {own : String} {cc : ByteArray} {nL : Nat} {ret : Option FieldType} {k : Nat} {pc q : Nat} {L L' : List (Nat × Value)} {st : List Value}
theorem g_sub (ks : List Nat) (hl : lv_pick L ks = L') (kk : gW Y X S pc L' st) : gW Y X S pc L st := fun H locs ls hH h => kk H locs ls hH (lv_sub h ks hl)
theorem g_eqS {S' : SS} (h : S = S') (kk : gW Y X S' pc L st) : gW Y X S pc L st := h ▸ kk
theorem g_eqT {st' : List Value} (h : st = st') (kk : gW Y X S pc L st') : gW Y X S pc L st := h ▸ kk
theorem g_eqL (h : L = L') (kk : gW Y X S pc L' st) : gW Y X S pc L st := h ▸ kk
theorem g_iconst (B : gB Y X own cc nL ret k) {n : Int} (d : decode cc pc = .ok (.iconst n, 1)) (hq : pc + 1 = q)  (kk : gW Y X S q L (.int (iI n) :: st)) : gW Y X S pc L st := by
  subst hq
  intro H locs ls hH hl
  exact lv_iconst B.1 B.2.1 d rfl (kk H locs ls hH hl)
theorem g_bipush (B : gB Y X own cc nL ret k) {n : Int} (d : decode cc pc = .ok (.bipush n, 2)) (hq : pc + 2 = q) (hv : (Int8.ofInt n).toInt32 = iI n) (kk : gW Y X S q L (.int (iI n) :: st)) : gW Y X S pc L st := by
  subst hq
  intro H locs ls hH hl
  exact lv_bipush B.1 B.2.1 d hv (kk H locs ls hH hl)
theorem g_sipush (B : gB Y X own cc nL ret k) {n : Int} (d : decode cc pc = .ok (.sipush n, 3)) (hq : pc + 3 = q) (hv : (Int16.ofInt n).toInt32 = iI n) (kk : gW Y X S q L (.int (iI n) :: st)) : gW Y X S pc L st := by
  subst hq
  intro H locs ls hH hl
  exact lv_sipush B.1 B.2.1 d hv (kk H locs ls hH hl)
theorem g_lconst (B : gB Y X own cc nL ret k) {n : Fin 2} {z : Int} (d : decode cc pc = .ok (.lconst n, 1)) (hq : pc + 1 = q) (hv : Int64.ofNat (n : Nat) = lI z) (kk : gW Y X S q L (.long (lI z) :: st)) : gW Y X S pc L st := by
  subst hq
  intro H locs ls hH hl
  exact lv_lconst B.1 B.2.1 d hv (kk H locs ls hH hl)
theorem g_ldc (B : gB Y X own cc nL ret k) {i : Nat} {v : Int32} {z : Int} (d : decode cc pc = .ok (.ldc i, 2)) (hq : pc + 2 = q) (hw : Cond.constant own i v ∈ lw_g) (hv : v = iI z) (kk : gW Y X S q L (.int (iI z) :: st)) : gW Y X S pc L st := by
  subst hq
  intro H locs ls hH hl
  exact lv_ldc B.1 B.2.1 B.2.2.2.2.1 (B.2.2.2.2.2.1 _ hw) d (hv ▸ (kk H locs ls hH hl))
theorem g_ldc2 (B : gB Y X own cc nL ret k) {i : Nat} {v : Int64} {z : Int} (d : decode cc pc = .ok (.ldc2_w i, 3)) (hq : pc + 3 = q) (hw : Cond.constantLong own i v ∈ lw_g) (hv : v = lI z) (kk : gW Y X S q L (.long (lI z) :: st)) : gW Y X S pc L st := by
  subst hq
  intro H locs ls hH hl
  exact lv_ldc2 B.1 B.2.1 B.2.2.2.2.1 (B.2.2.2.2.2.1 _ hw) d (hv ▸ (kk H locs ls hH hl))
theorem g_iload_n (B : gB Y X own cc nL ret k) {j : Fin 4} {x : Int32} (d : decode cc pc = .ok (.iload_n j, 1)) (hq : pc + 1 = q) (n : Nat) (hk : L[n]? = some ((j : Nat), .int x)) (kk : gW Y X S q L (.int x :: st)) : gW Y X S pc L st := by
  subst hq
  intro H locs ls hH hl
  exact lv_iload_n B.1 B.2.1 d rfl (lv_at hl n hk) (kk H locs ls hH hl)
theorem g_iload (B : gB Y X own cc nL ret k) {j : Nat} {x : Int32} (d : decode cc pc = .ok (.iload j, 2)) (hq : pc + 2 = q) (n : Nat) (hk : L[n]? = some (j, .int x)) (kk : gW Y X S q L (.int x :: st)) : gW Y X S pc L st := by
  subst hq
  intro H locs ls hH hl
  exact lv_iload B.1 B.2.1 d (lv_at hl n hk) (kk H locs ls hH hl)
theorem g_lload_n (B : gB Y X own cc nL ret k) {j : Fin 4} {x : Int64} (d : decode cc pc = .ok (.lload_n j, 1)) (hq : pc + 1 = q) (n : Nat) (hk : L[n]? = some ((j : Nat), .long x)) (kk : gW Y X S q L (.long x :: st)) : gW Y X S pc L st := by
  subst hq
  intro H locs ls hH hl
  exact lv_lload_n B.1 B.2.1 d rfl (lv_at hl n hk) (kk H locs ls hH hl)
theorem g_lload (B : gB Y X own cc nL ret k) {j : Nat} {x : Int64} (d : decode cc pc = .ok (.lload j, 2)) (hq : pc + 2 = q) (n : Nat) (hk : L[n]? = some (j, .long x)) (kk : gW Y X S q L (.long x :: st)) : gW Y X S pc L st := by
  subst hq
  intro H locs ls hH hl
  exact lv_lload B.1 B.2.1 d (lv_at hl n hk) (kk H locs ls hH hl)
theorem g_aload_n (B : gB Y X own cc nL ret k) {j : Fin 4} {x : Nat} (d : decode cc pc = .ok (.aload_n j, 1)) (hq : pc + 1 = q) (n : Nat) (hk : L[n]? = some ((j : Nat), .ref x)) (kk : gW Y X S q L (.ref x :: st)) : gW Y X S pc L st := by
  subst hq
  intro H locs ls hH hl
  exact lv_aload_n B.1 B.2.1 d rfl (lv_at hl n hk) (kk H locs ls hH hl)
theorem g_aload (B : gB Y X own cc nL ret k) {j : Nat} {x : Nat} (d : decode cc pc = .ok (.aload j, 2)) (hq : pc + 2 = q) (n : Nat) (hk : L[n]? = some (j, .ref x)) (kk : gW Y X S q L (.ref x :: st)) : gW Y X S pc L st := by
  subst hq
  intro H locs ls hH hl
  exact lv_aload B.1 B.2.1 d (lv_at hl n hk) (kk H locs ls hH hl)
theorem g_istore_n (B : gB Y X own cc nL ret k) {j : Fin 4} {x : Int32} (d : decode cc pc = .ok (.istore_n j, 1)) (hq : pc + 1 = q) (hn : (j : Nat) < nL) (hL : ((j : Nat), Value.int x) :: L.filter (fun q => !(q.1 == (j : Nat)) && !(q.1 + 1 == (j : Nat) && q.2.category == 2)) = L') (kk : gW Y X S q L' st) : gW Y X S pc L (Value.int x :: st) := by
  subst hq
  intro H locs ls hH hl
  rw [B.2.2.1] at hl
  exact lv_istore_n B.1 B.2.1 d rfl hl hn hL (fun ls' hl' => kk H locs ls' hH (by rw [B.2.2.1]; exact hl'))
theorem g_istore (B : gB Y X own cc nL ret k) {j : Nat} {x : Int32} (d : decode cc pc = .ok (.istore j, 2)) (hq : pc + 2 = q) (hn : j < nL) (hL : (j, Value.int x) :: L.filter (fun q => !(q.1 == j) && !(q.1 + 1 == j && q.2.category == 2)) = L') (kk : gW Y X S q L' st) : gW Y X S pc L (Value.int x :: st) := by
  subst hq
  intro H locs ls hH hl
  rw [B.2.2.1] at hl
  exact lv_istore B.1 B.2.1 d hl hn hL (fun ls' hl' => kk H locs ls' hH (by rw [B.2.2.1]; exact hl'))
theorem g_astore_n (B : gB Y X own cc nL ret k) {j : Fin 4} {x : Nat} (d : decode cc pc = .ok (.astore_n j, 1)) (hq : pc + 1 = q) (hn : (j : Nat) < nL) (hL : ((j : Nat), Value.ref x) :: L.filter (fun q => !(q.1 == (j : Nat)) && !(q.1 + 1 == (j : Nat) && q.2.category == 2)) = L') (kk : gW Y X S q L' st) : gW Y X S pc L (Value.ref x :: st) := by
  subst hq
  intro H locs ls hH hl
  rw [B.2.2.1] at hl
  exact lv_astore_n B.1 B.2.1 d rfl hl hn hL (fun ls' hl' => kk H locs ls' hH (by rw [B.2.2.1]; exact hl'))
theorem g_astore (B : gB Y X own cc nL ret k) {j : Nat} {x : Nat} (d : decode cc pc = .ok (.astore j, 2)) (hq : pc + 2 = q) (hn : j < nL) (hL : (j, Value.ref x) :: L.filter (fun q => !(q.1 == j) && !(q.1 + 1 == j && q.2.category == 2)) = L') (kk : gW Y X S q L' st) : gW Y X S pc L (Value.ref x :: st) := by
  subst hq
  intro H locs ls hH hl
  rw [B.2.2.1] at hl
  exact lv_astore B.1 B.2.1 d hl hn hL (fun ls' hl' => kk H locs ls' hH (by rw [B.2.2.1]; exact hl'))
theorem g_lstore_n (B : gB Y X own cc nL ret k) {j : Fin 4} {x : Int64} (d : decode cc pc = .ok (.lstore_n j, 1)) (hq : pc + 1 = q) (hn : (j : Nat) + 1 < nL) (hL : ((j : Nat), Value.long x) :: L.filter (fun q => !(q.1 == (j : Nat)) && (!(q.1 == (j : Nat) + 1) && !(q.1 + 1 == (j : Nat) && q.2.category == 2))) = L') (kk : gW Y X S q L' st) : gW Y X S pc L (Value.long x :: st) := by
  subst hq
  intro H locs ls hH hl
  rw [B.2.2.1] at hl
  exact lv_lstore_n B.1 B.2.1 d rfl hl hn hL (fun ls' hl' => kk H locs ls' hH (by rw [B.2.2.1]; exact hl'))
theorem g_lstore (B : gB Y X own cc nL ret k) {j : Nat} {x : Int64} (d : decode cc pc = .ok (.lstore j, 2)) (hq : pc + 2 = q) (hn : j + 1 < nL) (hL : (j, Value.long x) :: L.filter (fun q => !(q.1 == j) && (!(q.1 == j + 1) && !(q.1 + 1 == j && q.2.category == 2))) = L') (kk : gW Y X S q L' st) : gW Y X S pc L (Value.long x :: st) := by
  subst hq
  intro H locs ls hH hl
  rw [B.2.2.1] at hl
  exact lv_lstore B.1 B.2.1 d hl hn hL (fun ls' hl' => kk H locs ls' hH (by rw [B.2.2.1]; exact hl'))
theorem g_iinc (B : gB Y X own cc nL ret k) {i n : Nat} {z a : Int} (d : decode cc pc = .ok (.iinc i z, 3)) (hq : pc + 3 = q) (hk : L[n]? = some (i, .int (iI a))) (hn : i < nL) (hL : (i, Value.int (iI (a + z))) :: L.filter (fun q => !(q.1 == i) && !(q.1 + 1 == i && q.2.category == 2)) = L') (kk : gW Y X S q L' st) : gW Y X S pc L st := by
  subst hq
  intro H locs ls hH hl
  rw [B.2.2.1] at hl
  exact lv_iinc B.1 B.2.1 d hl hk (iI_add a z) hn hL (fun ls' hl' => kk H locs ls' hH (by rw [B.2.2.1]; exact hl'))
theorem g_iadd (B : gB Y X own cc nL ret k) {a b : Int} (d : decode cc pc = .ok (.iadd, 1)) (hq : pc + 1 = q)  (kk : gW Y X S q L (.int (iI (a + b)) :: st)) : gW Y X S pc L (.int (iI b) :: .int (iI a) :: st) := by
  subst hq
  intro H locs ls hH hl
  exact lv_iadd B.1 B.2.1 d (by rw [iI_add]; exact kk H locs ls hH hl)
theorem g_isub (B : gB Y X own cc nL ret k) {a b : Int} (d : decode cc pc = .ok (.isub, 1)) (hq : pc + 1 = q)  (kk : gW Y X S q L (.int (iI (a - b)) :: st)) : gW Y X S pc L (.int (iI b) :: .int (iI a) :: st) := by
  subst hq
  intro H locs ls hH hl
  exact lv_isub B.1 B.2.1 d (by rw [iI_sub]; exact kk H locs ls hH hl)
theorem g_imul (B : gB Y X own cc nL ret k) {a b : Int} (d : decode cc pc = .ok (.imul, 1)) (hq : pc + 1 = q)  (kk : gW Y X S q L (.int (iI (a * b)) :: st)) : gW Y X S pc L (.int (iI b) :: .int (iI a) :: st) := by
  subst hq
  intro H locs ls hH hl
  exact lv_imul B.1 B.2.1 d (by rw [iI_mul]; exact kk H locs ls hH hl)
theorem g_ladd (B : gB Y X own cc nL ret k) {a b : Int} (d : decode cc pc = .ok (.ladd, 1)) (hq : pc + 1 = q)  (kk : gW Y X S q L (.long (lI (a + b)) :: st)) : gW Y X S pc L (.long (lI b) :: .long (lI a) :: st) := by
  subst hq
  intro H locs ls hH hl
  exact lv_ladd B.1 B.2.1 d (by rw [lI_add]; exact kk H locs ls hH hl)
theorem g_lsub (B : gB Y X own cc nL ret k) {a b : Int} (d : decode cc pc = .ok (.lsub, 1)) (hq : pc + 1 = q)  (kk : gW Y X S q L (.long (lI (a - b)) :: st)) : gW Y X S pc L (.long (lI b) :: .long (lI a) :: st) := by
  subst hq
  intro H locs ls hH hl
  exact lv_lsub B.1 B.2.1 d (by rw [lI_sub]; exact kk H locs ls hH hl)
theorem g_lmul (B : gB Y X own cc nL ret k) {a b : Int} (d : decode cc pc = .ok (.lmul, 1)) (hq : pc + 1 = q)  (kk : gW Y X S q L (.long (lI (a * b)) :: st)) : gW Y X S pc L (.long (lI b) :: .long (lI a) :: st) := by
  subst hq
  intro H locs ls hH hl
  exact lv_lmul B.1 B.2.1 d (by rw [lI_mul]; exact kk H locs ls hH hl)
theorem g_ineg (B : gB Y X own cc nL ret k) {a : Int} (d : decode cc pc = .ok (.ineg, 1)) (hq : pc + 1 = q)  (kk : gW Y X S q L (.int (iI (-a)) :: st)) : gW Y X S pc L (.int (iI a) :: st) := by
  subst hq
  intro H locs ls hH hl
  exact lv_ineg B.1 B.2.1 d (by rw [iI_neg]; exact kk H locs ls hH hl)
theorem g_lneg (B : gB Y X own cc nL ret k) {a : Int} (d : decode cc pc = .ok (.lneg, 1)) (hq : pc + 1 = q)  (kk : gW Y X S q L (.long (lI (-a)) :: st)) : gW Y X S pc L (.long (lI a) :: st) := by
  subst hq
  intro H locs ls hH hl
  exact lv_lneg B.1 B.2.1 d (by rw [lI_neg]; exact kk H locs ls hH hl)
theorem g_idiv (B : gB Y X own cc nL ret k) {a b : Int} (d : decode cc pc = .ok (.idiv, 1)) (hq : pc + 1 = q) (h0 : 0 ≤ a) (h1 : a < 2147483648) (hb0 : 0 < b) (hb1 : b < 2147483648) (kk : gW Y X S q L (.int (iI (a / b)) :: st)) : gW Y X S pc L (.int (iI b) :: .int (iI a) :: st) := by
  subst hq
  intro H locs ls hH hl
  exact lv_idiv B.1 B.2.1 d (fun h => by have h2 := (iI_eq (a := b) (b := 0) ⟨by omega, by omega⟩ rI_0).mp h; omega) (by rw [iI_div h0 h1 hb0 hb1]; exact kk H locs ls hH hl)
theorem g_irem (B : gB Y X own cc nL ret k) {a b : Int} (d : decode cc pc = .ok (.irem, 1)) (hq : pc + 1 = q) (h0 : 0 ≤ a) (h1 : a < 2147483648) (hb0 : 0 < b) (hb1 : b < 2147483648) (kk : gW Y X S q L (.int (iI (a % b)) :: st)) : gW Y X S pc L (.int (iI b) :: .int (iI a) :: st) := by
  subst hq
  intro H locs ls hH hl
  exact lv_irem B.1 B.2.1 d (fun h => by have h2 := (iI_eq (a := b) (b := 0) ⟨by omega, by omega⟩ rI_0).mp h; omega) (by rw [iI_rem h0 h1 hb0 hb1]; exact kk H locs ls hH hl)
theorem g_ldiv (B : gB Y X own cc nL ret k) {a b : Int} (d : decode cc pc = .ok (.ldiv, 1)) (hq : pc + 1 = q) (h0 : 0 ≤ a) (h1 : a < 9223372036854775808) (hb0 : 0 < b) (hb1 : b < 9223372036854775808) (kk : gW Y X S q L (.long (lI (a / b)) :: st)) : gW Y X S pc L (.long (lI b) :: .long (lI a) :: st) := by
  subst hq
  intro H locs ls hH hl
  exact lv_ldiv B.1 B.2.1 d (fun h => by have h2 := (lI_eq (a := b) (b := 0) ⟨by omega, by omega⟩ ⟨by decide, by decide⟩).mp h; omega) (by rw [lI_div h0 h1 hb0 hb1]; exact kk H locs ls hH hl)
theorem g_lrem (B : gB Y X own cc nL ret k) {a b : Int} (d : decode cc pc = .ok (.lrem, 1)) (hq : pc + 1 = q) (h0 : 0 ≤ a) (h1 : a < 9223372036854775808) (hb0 : 0 < b) (hb1 : b < 9223372036854775808) (kk : gW Y X S q L (.long (lI (a % b)) :: st)) : gW Y X S pc L (.long (lI b) :: .long (lI a) :: st) := by
  subst hq
  intro H locs ls hH hl
  exact lv_lrem B.1 B.2.1 d (fun h => by have h2 := (lI_eq (a := b) (b := 0) ⟨by omega, by omega⟩ ⟨by decide, by decide⟩).mp h; omega) (by rw [lI_rem h0 h1 hb0 hb1]; exact kk H locs ls hH hl)
theorem g_iand (B : gB Y X own cc nL ret k) {x y v : Int32} (d : decode cc pc = .ok (.iand, 1)) (hq : pc + 1 = q) (hv : x &&& y = v) (kk : gW Y X S q L (.int v :: st)) : gW Y X S pc L (.int y :: .int x :: st) := by
  subst hq
  intro H locs ls hH hl
  exact lv_iand B.1 B.2.1 d (by rw [hv]; exact kk H locs ls hH hl)
theorem g_ior (B : gB Y X own cc nL ret k) {x y v : Int32} (d : decode cc pc = .ok (.ior, 1)) (hq : pc + 1 = q) (hv : x ||| y = v) (kk : gW Y X S q L (.int v :: st)) : gW Y X S pc L (.int y :: .int x :: st) := by
  subst hq
  intro H locs ls hH hl
  exact lv_ior B.1 B.2.1 d (by rw [hv]; exact kk H locs ls hH hl)
theorem g_ixor (B : gB Y X own cc nL ret k) {x y v : Int32} (d : decode cc pc = .ok (.ixor, 1)) (hq : pc + 1 = q) (hv : x ^^^ y = v) (kk : gW Y X S q L (.int v :: st)) : gW Y X S pc L (.int y :: .int x :: st) := by
  subst hq
  intro H locs ls hH hl
  exact lv_ixor B.1 B.2.1 d (by rw [hv]; exact kk H locs ls hH hl)
theorem g_land (B : gB Y X own cc nL ret k) {x y v : Int64} (d : decode cc pc = .ok (.land, 1)) (hq : pc + 1 = q) (hv : x &&& y = v) (kk : gW Y X S q L (.long v :: st)) : gW Y X S pc L (.long y :: .long x :: st) := by
  subst hq
  intro H locs ls hH hl
  exact lv_land B.1 B.2.1 d (by rw [hv]; exact kk H locs ls hH hl)
theorem g_lor (B : gB Y X own cc nL ret k) {x y v : Int64} (d : decode cc pc = .ok (.lor, 1)) (hq : pc + 1 = q) (hv : x ||| y = v) (kk : gW Y X S q L (.long v :: st)) : gW Y X S pc L (.long y :: .long x :: st) := by
  subst hq
  intro H locs ls hH hl
  exact lv_lor B.1 B.2.1 d (by rw [hv]; exact kk H locs ls hH hl)
theorem g_lxor (B : gB Y X own cc nL ret k) {x y v : Int64} (d : decode cc pc = .ok (.lxor, 1)) (hq : pc + 1 = q) (hv : x ^^^ y = v) (kk : gW Y X S q L (.long v :: st)) : gW Y X S pc L (.long y :: .long x :: st) := by
  subst hq
  intro H locs ls hH hl
  exact lv_lxor B.1 B.2.1 d (by rw [hv]; exact kk H locs ls hH hl)
theorem g_ishl (B : gB Y X own cc nL ret k) {x y v : Int32} (d : decode cc pc = .ok (.ishl, 1)) (hq : pc + 1 = q) (hv : x <<< (y &&& 31) = v) (kk : gW Y X S q L (.int v :: st)) : gW Y X S pc L (.int y :: .int x :: st) := by
  subst hq
  intro H locs ls hH hl
  exact lv_ishl B.1 B.2.1 d (by rw [hv]; exact kk H locs ls hH hl)
theorem g_ishr (B : gB Y X own cc nL ret k) {x y v : Int32} (d : decode cc pc = .ok (.ishr, 1)) (hq : pc + 1 = q) (hv : x >>> (y &&& 31) = v) (kk : gW Y X S q L (.int v :: st)) : gW Y X S pc L (.int y :: .int x :: st) := by
  subst hq
  intro H locs ls hH hl
  exact lv_ishr B.1 B.2.1 d (by rw [hv]; exact kk H locs ls hH hl)
theorem g_iushr (B : gB Y X own cc nL ret k) {x y v : Int32} (d : decode cc pc = .ok (.iushr, 1)) (hq : pc + 1 = q) (hv : (x.toUInt32 >>> (y.toUInt32 &&& Int32.toUInt32 31)).toInt32 = v) (kk : gW Y X S q L (.int v :: st)) : gW Y X S pc L (.int y :: .int x :: st) := by
  subst hq
  intro H locs ls hH hl
  exact lv_iushr B.1 B.2.1 d hv (kk H locs ls hH hl)
theorem g_lshl (B : gB Y X own cc nL ret k) {x v : Int64} {y : Int32} (d : decode cc pc = .ok (.lshl, 1)) (hq : pc + 1 = q) (hv : x <<< (y.toInt64 &&& 63) = v) (kk : gW Y X S q L (.long v :: st)) : gW Y X S pc L (.int y :: .long x :: st) := by
  subst hq
  intro H locs ls hH hl
  exact lv_lshl B.1 B.2.1 d hv (kk H locs ls hH hl)
theorem g_lushr (B : gB Y X own cc nL ret k) {x v : Int64} {y : Int32} (d : decode cc pc = .ok (.lushr, 1)) (hq : pc + 1 = q) (hv : (x.toUInt64 >>> (y.toInt64.toUInt64 &&& Int64.toUInt64 63)).toInt64 = v) (kk : gW Y X S q L (.long v :: st)) : gW Y X S pc L (.int y :: .long x :: st) := by
  subst hq
  intro H locs ls hH hl
  exact lv_lushr B.1 B.2.1 d hv (kk H locs ls hH hl)
theorem g_i2l (B : gB Y X own cc nL ret k) {a : Int} (d : decode cc pc = .ok (.i2l, 1)) (hq : pc + 1 = q) (ha : rI a) (kk : gW Y X S q L (.long (lI a) :: st)) : gW Y X S pc L (.int (iI a) :: st) := by
  subst hq
  intro H locs ls hH hl
  exact lv_i2l B.1 B.2.1 d (iI_i2l ha) (kk H locs ls hH hl)
theorem g_l2i (B : gB Y X own cc nL ret k) {a : Int} (d : decode cc pc = .ok (.l2i, 1)) (hq : pc + 1 = q)  (kk : gW Y X S q L (.int (iI a) :: st)) : gW Y X S pc L (.long (lI a) :: st) := by
  subst hq
  intro H locs ls hH hl
  exact lv_l2i B.1 B.2.1 d (lI_l2i a) (kk H locs ls hH hl)
theorem g_i2c (B : gB Y X own cc nL ret k) {x v : Int32} (d : decode cc pc = .ok (.i2c, 1)) (hq : pc + 1 = q) (hv : (x.toUInt32 % 65536).toInt32 = v) (kk : gW Y X S q L (.int v :: st)) : gW Y X S pc L (.int x :: st) := by
  subst hq
  intro H locs ls hH hl
  exact lv_i2c B.1 B.2.1 d hv (kk H locs ls hH hl)
theorem g_dup (B : gB Y X own cc nL ret k) {va : Value} (d : decode cc pc = .ok (.dup, 1)) (hq : pc + 1 = q) (hc : va.category = 1) (kk : gW Y X S q L (va :: va :: st)) : gW Y X S pc L (va :: st) := by
  subst hq
  intro H locs ls hH hl
  exact lv_dup B.1 B.2.1 d hc (kk H locs ls hH hl)
theorem g_pop (B : gB Y X own cc nL ret k) {va : Value} (d : decode cc pc = .ok (.pop, 1)) (hq : pc + 1 = q) (hc : va.category = 1) (kk : gW Y X S q L st) : gW Y X S pc L (va :: st) := by
  subst hq
  intro H locs ls hH hl
  exact lv_pop B.1 B.2.1 d hc (kk H locs ls hH hl)
theorem g_dup_x1 (B : gB Y X own cc nL ret k) {va vb : Value} (d : decode cc pc = .ok (.dup_x1, 1)) (hq : pc + 1 = q) (hc : va.category = 1) (hc2 : vb.category = 1) (kk : gW Y X S q L (va :: vb :: va :: st)) : gW Y X S pc L (va :: vb :: st) := by
  subst hq
  intro H locs ls hH hl
  exact lv_dup_x1 B.1 B.2.1 d hc hc2 (kk H locs ls hH hl)
theorem g_dup2 (B : gB Y X own cc nL ret k) {va vb : Value} (d : decode cc pc = .ok (.dup2, 1)) (hq : pc + 1 = q) (hc : va.category = 1) (hc2 : vb.category = 1) (kk : gW Y X S q L (va :: vb :: va :: vb :: st)) : gW Y X S pc L (va :: vb :: st) := by
  subst hq
  intro H locs ls hH hl
  exact lv_dup2_11 B.1 B.2.1 d hc hc2 (kk H locs ls hH hl)
theorem g_dup2l (B : gB Y X own cc nL ret k) {va : Value} (d : decode cc pc = .ok (.dup2, 1)) (hq : pc + 1 = q) (hc : va.category = 2) (kk : gW Y X S q L (va :: va :: st)) : gW Y X S pc L (va :: st) := by
  subst hq
  intro H locs ls hH hl
  exact lv_dup2_2 B.1 B.2.1 d hc (kk H locs ls hH hl)
theorem g_goto (B : gB Y X own cc nL ret k) {off : Int} (d : decode cc pc = .ok (.goto off, 3)) (hq : (pc : Int) + off = (q : Int)) (kk : gW Y X S q L st) : gW Y X S pc L st := by
  intro H locs ls hH hl
  exact lv_goto B.1 B.2.1 d hq (kk H locs ls hH hl)
theorem g_icmp_eq (B : gB Y X own cc nL ret k) {a b off : Int} {t : Nat} (d : decode cc pc = .ok (.if_icmp .eq off, 3)) (ht : (pc : Int) + off = (t : Int)) (hq : pc + 3 = q) (ha : rI a) (hb : rI b) (kt : a = b → gW Y X S t L st) (kf : ¬ (a = b) → gW Y X S q L st) : gW Y X S pc L (.int (iI b) :: .int (iI a) :: st) := by
  subst hq
  intro H locs ls hH hl
  exact lv_icmp_eq B.1 B.2.1 d ht (fun h => kt ((iI_eq ha hb).mp h) H locs ls hH hl) (fun h => kf (fun z => h ((iI_eq ha hb).mpr z)) H locs ls hH hl)
theorem g_if_eq (B : gB Y X own cc nL ret k) {a off : Int} {t : Nat} (d : decode cc pc = .ok (.ifCond .eq off, 3)) (ht : (pc : Int) + off = (t : Int)) (hq : pc + 3 = q) (ha : rI a) (kt : a = 0 → gW Y X S t L st) (kf : ¬ (a = 0) → gW Y X S q L st) : gW Y X S pc L (.int (iI a) :: st) := by
  subst hq
  intro H locs ls hH hl
  exact lv_if_eq B.1 B.2.1 d ht (fun h => kt ((iI_eq ha rI_0).mp h) H locs ls hH hl) (fun h => kf (fun z => h ((iI_eq ha rI_0).mpr z)) H locs ls hH hl)
theorem g_icmp_lt (B : gB Y X own cc nL ret k) {a b off : Int} {t : Nat} (d : decode cc pc = .ok (.if_icmp .lt off, 3)) (ht : (pc : Int) + off = (t : Int)) (hq : pc + 3 = q) (ha : rI a) (hb : rI b) (kt : a < b → gW Y X S t L st) (kf : ¬ (a < b) → gW Y X S q L st) : gW Y X S pc L (.int (iI b) :: .int (iI a) :: st) := by
  subst hq
  intro H locs ls hH hl
  exact lv_icmp_lt B.1 B.2.1 d ht (fun h => kt ((iI_lt ha hb).mp h) H locs ls hH hl) (fun h => kf (fun z => h ((iI_lt ha hb).mpr z)) H locs ls hH hl)
theorem g_if_lt (B : gB Y X own cc nL ret k) {a off : Int} {t : Nat} (d : decode cc pc = .ok (.ifCond .lt off, 3)) (ht : (pc : Int) + off = (t : Int)) (hq : pc + 3 = q) (ha : rI a) (kt : a < 0 → gW Y X S t L st) (kf : ¬ (a < 0) → gW Y X S q L st) : gW Y X S pc L (.int (iI a) :: st) := by
  subst hq
  intro H locs ls hH hl
  exact lv_if_lt B.1 B.2.1 d ht (fun h => kt ((iI_lt ha rI_0).mp h) H locs ls hH hl) (fun h => kf (fun z => h ((iI_lt ha rI_0).mpr z)) H locs ls hH hl)
theorem g_icmp_le (B : gB Y X own cc nL ret k) {a b off : Int} {t : Nat} (d : decode cc pc = .ok (.if_icmp .le off, 3)) (ht : (pc : Int) + off = (t : Int)) (hq : pc + 3 = q) (ha : rI a) (hb : rI b) (kt : a ≤ b → gW Y X S t L st) (kf : ¬ (a ≤ b) → gW Y X S q L st) : gW Y X S pc L (.int (iI b) :: .int (iI a) :: st) := by
  subst hq
  intro H locs ls hH hl
  exact lv_icmp_le B.1 B.2.1 d ht (fun h => kt ((iI_le ha hb).mp h) H locs ls hH hl) (fun h => kf (fun z => h ((iI_le ha hb).mpr z)) H locs ls hH hl)
theorem g_if_le (B : gB Y X own cc nL ret k) {a off : Int} {t : Nat} (d : decode cc pc = .ok (.ifCond .le off, 3)) (ht : (pc : Int) + off = (t : Int)) (hq : pc + 3 = q) (ha : rI a) (kt : a ≤ 0 → gW Y X S t L st) (kf : ¬ (a ≤ 0) → gW Y X S q L st) : gW Y X S pc L (.int (iI a) :: st) := by
  subst hq
  intro H locs ls hH hl
  exact lv_if_le B.1 B.2.1 d ht (fun h => kt ((iI_le ha rI_0).mp h) H locs ls hH hl) (fun h => kf (fun z => h ((iI_le ha rI_0).mpr z)) H locs ls hH hl)
theorem g_icmp_gt (B : gB Y X own cc nL ret k) {a b off : Int} {t : Nat} (d : decode cc pc = .ok (.if_icmp .gt off, 3)) (ht : (pc : Int) + off = (t : Int)) (hq : pc + 3 = q) (ha : rI a) (hb : rI b) (kt : b < a → gW Y X S t L st) (kf : ¬ (b < a) → gW Y X S q L st) : gW Y X S pc L (.int (iI b) :: .int (iI a) :: st) := by
  subst hq
  intro H locs ls hH hl
  exact lv_icmp_gt B.1 B.2.1 d ht (fun h => kt ((iI_lt hb ha).mp h) H locs ls hH hl) (fun h => kf (fun z => h ((iI_lt hb ha).mpr z)) H locs ls hH hl)
theorem g_if_gt (B : gB Y X own cc nL ret k) {a off : Int} {t : Nat} (d : decode cc pc = .ok (.ifCond .gt off, 3)) (ht : (pc : Int) + off = (t : Int)) (hq : pc + 3 = q) (ha : rI a) (kt : 0 < a → gW Y X S t L st) (kf : ¬ (0 < a) → gW Y X S q L st) : gW Y X S pc L (.int (iI a) :: st) := by
  subst hq
  intro H locs ls hH hl
  exact lv_if_gt B.1 B.2.1 d ht (fun h => kt ((iI_lt rI_0 ha).mp h) H locs ls hH hl) (fun h => kf (fun z => h ((iI_lt rI_0 ha).mpr z)) H locs ls hH hl)
theorem g_icmp_ge (B : gB Y X own cc nL ret k) {a b off : Int} {t : Nat} (d : decode cc pc = .ok (.if_icmp .ge off, 3)) (ht : (pc : Int) + off = (t : Int)) (hq : pc + 3 = q) (ha : rI a) (hb : rI b) (kt : b ≤ a → gW Y X S t L st) (kf : ¬ (b ≤ a) → gW Y X S q L st) : gW Y X S pc L (.int (iI b) :: .int (iI a) :: st) := by
  subst hq
  intro H locs ls hH hl
  exact lv_icmp_ge B.1 B.2.1 d ht (fun h => kt ((iI_le hb ha).mp h) H locs ls hH hl) (fun h => kf (fun z => h ((iI_le hb ha).mpr z)) H locs ls hH hl)
theorem g_if_ge (B : gB Y X own cc nL ret k) {a off : Int} {t : Nat} (d : decode cc pc = .ok (.ifCond .ge off, 3)) (ht : (pc : Int) + off = (t : Int)) (hq : pc + 3 = q) (ha : rI a) (kt : 0 ≤ a → gW Y X S t L st) (kf : ¬ (0 ≤ a) → gW Y X S q L st) : gW Y X S pc L (.int (iI a) :: st) := by
  subst hq
  intro H locs ls hH hl
  exact lv_if_ge B.1 B.2.1 d ht (fun h => kt ((iI_le rI_0 ha).mp h) H locs ls hH hl) (fun h => kf (fun z => h ((iI_le rI_0 ha).mpr z)) H locs ls hH hl)
theorem g_icmp_ne (B : gB Y X own cc nL ret k) {a b off : Int} {t : Nat} (d : decode cc pc = .ok (.if_icmp .ne off, 3)) (ht : (pc : Int) + off = (t : Int)) (hq : pc + 3 = q) (ha : rI a) (hb : rI b) (kt : ¬ a = b → gW Y X S t L st) (kf : a = b → gW Y X S q L st) : gW Y X S pc L (.int (iI b) :: .int (iI a) :: st) := by
  subst hq
  intro H locs ls hH hl
  exact lv_icmp_ne B.1 B.2.1 d ht (fun h => kt (fun z => h ((iI_eq ha hb).mpr z)) H locs ls hH hl) (fun h => kf ((iI_eq ha hb).mp h) H locs ls hH hl)
theorem g_if_ne (B : gB Y X own cc nL ret k) {a off : Int} {t : Nat} (d : decode cc pc = .ok (.ifCond .ne off, 3)) (ht : (pc : Int) + off = (t : Int)) (hq : pc + 3 = q) (ha : rI a) (kt : ¬ a = 0 → gW Y X S t L st) (kf : a = 0 → gW Y X S q L st) : gW Y X S pc L (.int (iI a) :: st) := by
  subst hq
  intro H locs ls hH hl
  exact lv_if_ne B.1 B.2.1 d ht (fun h => kt (fun z => h ((iI_eq ha rI_0).mpr z)) H locs ls hH hl) (fun h => kf ((iI_eq ha rI_0).mp h) H locs ls hH hl)
theorem g_ifb_eq (B : gB Y X own cc nL ret k) {P : Prop} [Decidable P] {off : Int} {t : Nat} (d : decode cc pc = .ok (.ifCond .eq off, 3)) (ht : (pc : Int) + off = (t : Int)) (hq : pc + 3 = q) (kt : ¬ P → gW Y X S t L st) (kf : P → gW Y X S q L st) : gW Y X S pc L (.int (bI P) :: st) := by
  subst hq
  intro H locs ls hH hl
  exact lv_if_eq B.1 B.2.1 d ht (fun h => kt (fun z => by rw [bI_t z] at h; exact absurd h (by decide)) H locs ls hH hl) (fun h => kf (Decidable.byContradiction fun z => h (bI_f z)) H locs ls hH hl)
theorem g_ifb_ne (B : gB Y X own cc nL ret k) {P : Prop} [Decidable P] {off : Int} {t : Nat} (d : decode cc pc = .ok (.ifCond .ne off, 3)) (ht : (pc : Int) + off = (t : Int)) (hq : pc + 3 = q) (kt : P → gW Y X S t L st) (kf : ¬ P → gW Y X S q L st) : gW Y X S pc L (.int (bI P) :: st) := by
  subst hq
  intro H locs ls hH hl
  exact lv_if_ne B.1 B.2.1 d ht (fun h => kt (Decidable.byContradiction fun z => h (bI_f z)) H locs ls hH hl) (fun h => kf (fun z => by rw [bI_t z] at h; exact absurd h (by decide)) H locs ls hH hl)
theorem g_lcmp_gt (B : gB Y X own cc nL ret k) {a b off : Int} {t : Nat} (d1 : decode cc pc = .ok (.lcmp, 1)) (d : decode cc (pc + 1) = .ok (.ifCond .gt off, 3)) (ht : ((pc + 1 : Nat) : Int) + off = (t : Int)) (hq : pc + 4 = q) (ha : rL a) (hb : rL b) (kt : b < a → gW Y X S t L st) (kf : ¬ (b < a) → gW Y X S q L st) : gW Y X S pc L (.long (lI b) :: .long (lI a) :: st) := by
  subst hq
  intro H locs ls hH hl
  have e : ∀ x y : Int64, (0 < lg_cmp x y ↔ y < x) := by
    intro x y
    unfold lg_cmp
    simp only [gt_iff_lt, Int64.lt_iff_toInt_lt, Int64.le_iff_toInt_le, ← Int64.toInt_inj]
    rcases Int.lt_trichotomy x.toInt y.toInt with h | h | h
    · rw [if_neg (by omega), if_neg (by omega)]; constructor <;> intro z <;> first | omega | (exact absurd z (by decide)) | decide
    · rw [if_neg (by omega), if_pos (by omega)]; constructor <;> intro z <;> first | omega | (exact absurd z (by decide)) | decide
    · rw [if_pos (by omega)]; constructor <;> intro z <;> first | omega | (exact absurd z (by decide)) | decide
  exact W.lcmp B.1 B.2.1 d1 (lv_if_gt B.1 B.2.1 d ht (fun h => kt ((lI_lt hb ha).mp ((e _ _).mp h)) H locs ls hH hl) (fun h => kf (fun z => h ((e _ _).mpr ((lI_lt hb ha).mpr z))) H locs ls hH hl))
theorem g_lcmp_ge (B : gB Y X own cc nL ret k) {a b off : Int} {t : Nat} (d1 : decode cc pc = .ok (.lcmp, 1)) (d : decode cc (pc + 1) = .ok (.ifCond .ge off, 3)) (ht : ((pc + 1 : Nat) : Int) + off = (t : Int)) (hq : pc + 4 = q) (ha : rL a) (hb : rL b) (kt : b ≤ a → gW Y X S t L st) (kf : ¬ (b ≤ a) → gW Y X S q L st) : gW Y X S pc L (.long (lI b) :: .long (lI a) :: st) := by
  subst hq
  intro H locs ls hH hl
  have e : ∀ x y : Int64, (0 ≤ lg_cmp x y ↔ y ≤ x) := by
    intro x y
    unfold lg_cmp
    simp only [gt_iff_lt, Int64.lt_iff_toInt_lt, Int64.le_iff_toInt_le, ← Int64.toInt_inj]
    rcases Int.lt_trichotomy x.toInt y.toInt with h | h | h
    · rw [if_neg (by omega), if_neg (by omega)]; constructor <;> intro z <;> first | omega | (exact absurd z (by decide)) | decide
    · rw [if_neg (by omega), if_pos (by omega)]; constructor <;> intro z <;> first | omega | (exact absurd z (by decide)) | decide
    · rw [if_pos (by omega)]; constructor <;> intro z <;> first | omega | (exact absurd z (by decide)) | decide
  exact W.lcmp B.1 B.2.1 d1 (lv_if_ge B.1 B.2.1 d ht (fun h => kt ((lI_le hb ha).mp ((e _ _).mp h)) H locs ls hH hl) (fun h => kf (fun z => h ((e _ _).mpr ((lI_le hb ha).mpr z))) H locs ls hH hl))
theorem g_lcmp_lt (B : gB Y X own cc nL ret k) {a b off : Int} {t : Nat} (d1 : decode cc pc = .ok (.lcmp, 1)) (d : decode cc (pc + 1) = .ok (.ifCond .lt off, 3)) (ht : ((pc + 1 : Nat) : Int) + off = (t : Int)) (hq : pc + 4 = q) (ha : rL a) (hb : rL b) (kt : a < b → gW Y X S t L st) (kf : ¬ (a < b) → gW Y X S q L st) : gW Y X S pc L (.long (lI b) :: .long (lI a) :: st) := by
  subst hq
  intro H locs ls hH hl
  have e : ∀ x y : Int64, (lg_cmp x y < 0 ↔ x < y) := by
    intro x y
    unfold lg_cmp
    simp only [gt_iff_lt, Int64.lt_iff_toInt_lt, Int64.le_iff_toInt_le, ← Int64.toInt_inj]
    rcases Int.lt_trichotomy x.toInt y.toInt with h | h | h
    · rw [if_neg (by omega), if_neg (by omega)]; constructor <;> intro z <;> first | omega | (exact absurd z (by decide)) | decide
    · rw [if_neg (by omega), if_pos (by omega)]; constructor <;> intro z <;> first | omega | (exact absurd z (by decide)) | decide
    · rw [if_pos (by omega)]; constructor <;> intro z <;> first | omega | (exact absurd z (by decide)) | decide
  exact W.lcmp B.1 B.2.1 d1 (lv_if_lt B.1 B.2.1 d ht (fun h => kt ((lI_lt ha hb).mp ((e _ _).mp h)) H locs ls hH hl) (fun h => kf (fun z => h ((e _ _).mpr ((lI_lt ha hb).mpr z))) H locs ls hH hl))
theorem g_lcmp_le (B : gB Y X own cc nL ret k) {a b off : Int} {t : Nat} (d1 : decode cc pc = .ok (.lcmp, 1)) (d : decode cc (pc + 1) = .ok (.ifCond .le off, 3)) (ht : ((pc + 1 : Nat) : Int) + off = (t : Int)) (hq : pc + 4 = q) (ha : rL a) (hb : rL b) (kt : a ≤ b → gW Y X S t L st) (kf : ¬ (a ≤ b) → gW Y X S q L st) : gW Y X S pc L (.long (lI b) :: .long (lI a) :: st) := by
  subst hq
  intro H locs ls hH hl
  have e : ∀ x y : Int64, (lg_cmp x y ≤ 0 ↔ x ≤ y) := by
    intro x y
    unfold lg_cmp
    simp only [gt_iff_lt, Int64.lt_iff_toInt_lt, Int64.le_iff_toInt_le, ← Int64.toInt_inj]
    rcases Int.lt_trichotomy x.toInt y.toInt with h | h | h
    · rw [if_neg (by omega), if_neg (by omega)]; constructor <;> intro z <;> first | omega | (exact absurd z (by decide)) | decide
    · rw [if_neg (by omega), if_pos (by omega)]; constructor <;> intro z <;> first | omega | (exact absurd z (by decide)) | decide
    · rw [if_pos (by omega)]; constructor <;> intro z <;> first | omega | (exact absurd z (by decide)) | decide
  exact W.lcmp B.1 B.2.1 d1 (lv_if_le B.1 B.2.1 d ht (fun h => kt ((lI_le ha hb).mp ((e _ _).mp h)) H locs ls hH hl) (fun h => kf (fun z => h ((e _ _).mpr ((lI_le ha hb).mpr z))) H locs ls hH hl))
theorem g_lcmp_eq (B : gB Y X own cc nL ret k) {a b off : Int} {t : Nat} (d1 : decode cc pc = .ok (.lcmp, 1)) (d : decode cc (pc + 1) = .ok (.ifCond .eq off, 3)) (ht : ((pc + 1 : Nat) : Int) + off = (t : Int)) (hq : pc + 4 = q) (ha : rL a) (hb : rL b) (kt : a = b → gW Y X S t L st) (kf : ¬ (a = b) → gW Y X S q L st) : gW Y X S pc L (.long (lI b) :: .long (lI a) :: st) := by
  subst hq
  intro H locs ls hH hl
  have e : ∀ x y : Int64, (lg_cmp x y = 0 ↔ x = y) := by
    intro x y
    unfold lg_cmp
    simp only [gt_iff_lt, Int64.lt_iff_toInt_lt, Int64.le_iff_toInt_le, ← Int64.toInt_inj]
    rcases Int.lt_trichotomy x.toInt y.toInt with h | h | h
    · rw [if_neg (by omega), if_neg (by omega)]; constructor <;> intro z <;> first | omega | (exact absurd z (by decide)) | decide
    · rw [if_neg (by omega), if_pos (by omega)]; constructor <;> intro z <;> first | omega | (exact absurd z (by decide)) | decide
    · rw [if_pos (by omega)]; constructor <;> intro z <;> first | omega | (exact absurd z (by decide)) | decide
  exact W.lcmp B.1 B.2.1 d1 (lv_if_eq B.1 B.2.1 d ht (fun h => kt ((lI_eq ha hb).mp ((e _ _).mp h)) H locs ls hH hl) (fun h => kf (fun z => h ((e _ _).mpr ((lI_eq ha hb).mpr z))) H locs ls hH hl))
theorem g_lcmp_ne (B : gB Y X own cc nL ret k) {a b off : Int} {t : Nat} (d1 : decode cc pc = .ok (.lcmp, 1)) (d : decode cc (pc + 1) = .ok (.ifCond .ne off, 3)) (ht : ((pc + 1 : Nat) : Int) + off = (t : Int)) (hq : pc + 4 = q) (ha : rL a) (hb : rL b) (kt : ¬ a = b → gW Y X S t L st) (kf : a = b → gW Y X S q L st) : gW Y X S pc L (.long (lI b) :: .long (lI a) :: st) := by
  subst hq
  intro H locs ls hH hl
  have e : ∀ x y : Int64, (¬ lg_cmp x y = 0 ↔ ¬ x = y) := by
    intro x y
    unfold lg_cmp
    simp only [gt_iff_lt, Int64.lt_iff_toInt_lt, Int64.le_iff_toInt_le, ← Int64.toInt_inj]
    rcases Int.lt_trichotomy x.toInt y.toInt with h | h | h
    · rw [if_neg (by omega), if_neg (by omega)]; constructor <;> intro z <;> first | omega | (exact absurd z (by decide)) | decide
    · rw [if_neg (by omega), if_pos (by omega)]; constructor <;> intro z <;> first | omega | (exact absurd z (by decide)) | decide
    · rw [if_pos (by omega)]; constructor <;> intro z <;> first | omega | (exact absurd z (by decide)) | decide
  exact W.lcmp B.1 B.2.1 d1 (lv_if_ne B.1 B.2.1 d ht (fun h => kt (fun z => (e _ _).mp h ((lI_eq ha hb).mpr z)) H locs ls hH hl) (fun h => kf (Decidable.byContradiction fun z => (e _ _).mpr (fun y => z ((lI_eq ha hb).mp y)) h) H locs ls hH hl))
theorem g_tsIn (B : gB Y X own cc nL ret k) {dflt lo hi off : Int} {offs : Array Int} {len : Nat} {a : Int} (v : Int) (d : decode cc pc = .ok (.tableswitch dflt lo hi offs, len)) (h : a = v) (hr : lo ≤ v ∧ v ≤ hi ∧ rI v) (ho : offs[(v - lo).toNat]? = some off) (ht : (pc : Int) + off = (q : Int)) (kk : gW Y X S q L st) : gW Y X S pc L (.int (iI a) :: st) := by
  subst h
  intro H locs ls hH hl
  obtain ⟨h1, h2, h3⟩ := hr
  have e := iI_toInt h3
  exact lv_tableIn B.1 B.2.1 d (by rw [e]; omega) (by rw [e]; omega) (by rw [e]; exact ho) ht (kk H locs ls hH hl)
theorem g_tsOut (B : gB Y X own cc nL ret k) {dflt lo hi : Int} {offs : Array Int} {len : Nat} {a : Int} (d : decode cc pc = .ok (.tableswitch dflt lo hi offs, len)) (h : a < lo ∨ hi < a) (hr : rI a) (ht : (pc : Int) + dflt = (q : Int)) (kk : gW Y X S q L st) : gW Y X S pc L (.int (iI a) :: st) := by
  intro H locs ls hH hl
  exact lv_tableOut B.1 B.2.1 d (by rw [iI_toInt hr]; exact h) ht (kk H locs ls hH hl)
theorem g_lsw (B : gB Y X own cc nL ret k) {dflt off : Int} {ps : Array (Int × Int)} {len : Nat} {a : Int} (d : decode cc pc = .ok (.lookupswitch dflt ps, len)) (hp : (ps.toList.zip (ps.toList.drop 1)).all (fun (a, next) => a.1 < next.1) = true) (hr : rI a) (ho : Op.lookupswitch.offset ps.toList dflt a = off) (ht : (pc : Int) + off = (q : Int)) (kk : gW Y X S q L st) : gW Y X S pc L (.int (iI a) :: st) := by
  intro H locs ls hH hl
  exact lv_lookup B.1 B.2.1 d hp (by rw [iI_toInt hr]; exact ho) ht (kk H locs ls hH hl)
theorem g_ifnull (B : gB Y X own cc nL ret k) {x : Nat} {off : Int} (d : decode cc pc = .ok (.ifnull off, 3)) (hq : pc + 3 = q)  (kk : gW Y X S q L st) : gW Y X S pc L (.ref x :: st) := by
  subst hq
  intro H locs ls hH hl
  exact lv_ifnull B.1 B.2.1 d (kk H locs ls hH hl)
theorem g_ifnonnull (B : gB Y X own cc nL ret k) {x : Nat} {off : Int} (d : decode cc pc = .ok (.ifnonnull off, 3)) (ht : (pc : Int) + off = (q : Int)) (kk : gW Y X S q L st) : gW Y X S pc L (.ref x :: st) := by
  intro H locs ls hH hl
  exact lv_ifnonnull B.1 B.2.1 d ht (kk H locs ls hH hl)
end GR
