/-! DIVISION: what is had of the four kinds, in one long, sixteen bits a kind -/
def pkF (f : Int → Int) : Int := f 0 + 65536 * f 1 + 4294967296 * f 2 + 281474976710656 * f 3
def pkR (f : Int → Int) (b : Int) : Prop := ∀ k : Int, 0 ≤ k → k < 4 → 0 ≤ f k ∧ f k < b
theorem pkR.four {f : Int → Int} {b : Int} (h : pkR f b) : (0 ≤ f 0 ∧ f 0 < b) ∧ (0 ≤ f 1 ∧ f 1 < b) ∧ (0 ≤ f 2 ∧ f 2 < b) ∧ 0 ≤ f 3 ∧ f 3 < b := ⟨h 0 (by decide) (by decide), h 1 (by decide) (by decide), h 2 (by decide) (by decide), h 3 (by decide) (by decide)⟩
theorem k4 {P : Int → Prop} (h0 : P 0) (h1 : P 1) (h2 : P 2) (h3 : P 3) (k : Int) (a : 0 ≤ k) (b : k < 4) : P k := by
  rcases (show k = 0 ∨ k = 1 ∨ k = 2 ∨ k = 3 by omega) with h | h | h | h <;> rw [h] <;> assumption
theorem pz_in {f : Int → Int} {b : Int} (hb : b ≤ 32768) (h : pkR f b) : 0 ≤ pkF f ∧ pkF f < 9223372036854775808 := by
  have := h.four
  unfold pkF
  omega
theorem pz_in16 {f : Int → Int} (h : pkR f 65536) : 0 ≤ pkF f ∧ pkF f < 18446744073709551616 := by
  have := h.four
  unfold pkF
  omega
theorem pz_inj {f g : Int → Int} (hf : pkR f 65536) (hg : pkR g 65536) : pkF f = pkF g ↔ ∀ k : Int, 0 ≤ k → k < 4 → f k = g k := by
  have h1 := hf.four
  have h2 := hg.four
  constructor
  · intro h
    unfold pkF at h
    exact k4 (by omega) (by omega) (by omega) (by omega)
  · intro h
    unfold pkF
    rw [h 0 (by decide) (by decide), h 1 (by decide) (by decide), h 2 (by decide) (by decide), h 3 (by decide) (by decide)]
theorem pz_add (f g : Int → Int) : pkF f + pkF g = pkF (fun k => f k + g k) := by simp only [pkF]; omega
theorem pz_sub (f g : Int → Int) : pkF f - pkF g = pkF (fun k => f k - g k) := by simp only [pkF]; omega
theorem pz_neg (f : Int → Int) : -pkF f = pkF (fun k => -f k) := by simp only [pkF]; omega
theorem pz_0 : pkF (fun _ => 0) = 0 := by decide
/-- one kind's value at its place -/
theorem pz_one {k : Int} (k0 : 0 ≤ k) (k1 : k < 4) (v : Int) : v * 2 ^ (16 * k).toNat = pkF (fun j => if k = j then v else 0) := by
  rcases (show k = 0 ∨ k = 1 ∨ k = 2 ∨ k = 3 by omega) with h | h | h | h <;> subst h <;> simp [pkF] <;> omega
theorem lN_and (a b : Nat) : lN a &&& lN b = lN (a &&& b) := by
  apply Int64.toBitVec_inj.1
  show BitVec.ofNat 64 a &&& BitVec.ofNat 64 b = BitVec.ofNat 64 (a &&& b)
  exact BitVec.ofNat_and.symm
theorem lN_or (a b : Nat) : lN a ||| lN b = lN (a ||| b) := by
  apply Int64.toBitVec_inj.1
  show BitVec.ofNat 64 a ||| BitVec.ofNat 64 b = BitVec.ofNat 64 (a ||| b)
  exact BitVec.ofNat_or.symm
theorem lI_inj {a b : Int} (ha : 0 ≤ a ∧ a < 18446744073709551616) (hb : 0 ≤ b ∧ b < 18446744073709551616) : lI a = lI b ↔ a = b := by
  constructor
  · intro h
    obtain ⟨n, rfl⟩ := Int.eq_ofNat_of_zero_le ha.1
    obtain ⟨m, rfl⟩ := Int.eq_ofNat_of_zero_le hb.1
    have h2 : BitVec.ofInt 64 (n : Int) = BitVec.ofInt 64 (m : Int) := by
      have := congrArg Int64.toBitVec h
      unfold lI at this
      rwa [Int64.toBitVec_ofInt, Int64.toBitVec_ofInt] at this
    have h3 := congrArg BitVec.toNat h2
    rw [BitVec.toNat_ofInt, BitVec.toNat_ofInt] at h3
    omega
  · intro h; rw [h]
/-- bitwise, sixteen bits apart -/
theorem and16 {a c : Nat} (b d : Nat) (ha : a < 65536) (hc : c < 65536) : (a + 65536 * b) &&& (c + 65536 * d) = (a &&& c) + 65536 * (b &&& d) := by
  have h1 : ((a + 65536 * b) &&& (c + 65536 * d)) % 2 ^ 16 = (a + 65536 * b) % 2 ^ 16 &&& (c + 65536 * d) % 2 ^ 16 := Nat.and_mod_two_pow
  have h2 : ((a + 65536 * b) &&& (c + 65536 * d)) / 2 ^ 16 = (a + 65536 * b) / 2 ^ 16 &&& (c + 65536 * d) / 2 ^ 16 := Nat.and_div_two_pow
  rw [show (a + 65536 * b) % 2 ^ 16 = a by omega, show (c + 65536 * d) % 2 ^ 16 = c by omega] at h1
  rw [show (a + 65536 * b) / 2 ^ 16 = b by omega, show (c + 65536 * d) / 2 ^ 16 = d by omega] at h2
  rw [← h1, ← h2]
  omega
theorem or16 {a c : Nat} (b d : Nat) (ha : a < 65536) (hc : c < 65536) : (a + 65536 * b) ||| (c + 65536 * d) = (a ||| c) + 65536 * (b ||| d) := by
  have h1 : ((a + 65536 * b) ||| (c + 65536 * d)) % 2 ^ 16 = (a + 65536 * b) % 2 ^ 16 ||| (c + 65536 * d) % 2 ^ 16 := Nat.or_mod_two_pow
  have h2 : ((a + 65536 * b) ||| (c + 65536 * d)) / 2 ^ 16 = (a + 65536 * b) / 2 ^ 16 ||| (c + 65536 * d) / 2 ^ 16 := Nat.or_div_two_pow
  rw [show (a + 65536 * b) % 2 ^ 16 = a by omega, show (c + 65536 * d) % 2 ^ 16 = c by omega] at h1
  rw [show (a + 65536 * b) / 2 ^ 16 = b by omega, show (c + 65536 * d) / 2 ^ 16 = d by omega] at h2
  rw [← h1, ← h2]
  omega
def pkN (a b c d : Nat) : Nat := a + 65536 * (b + 65536 * (c + 65536 * d))
theorem pz_nat {f : Int → Int} {x : Int} (h : pkR f x) : pkF f = (pkN (f 0).toNat (f 1).toNat (f 2).toNat (f 3).toNat : Nat) := by
  have := h.four
  unfold pkF pkN
  omega
theorem bit1 (a : Nat) : a &&& 1 = a % 2 := by
  have := Nat.and_two_pow_sub_one_eq_mod a 1
  exact this
/-- the lowest bits of the kinds -/
theorem pz_low {f : Int → Int} (h : pkR f 65536) : lI (pkF f) &&& lI 281479271743489 = lI (pkF (fun k => f k % 2)) := by
  have h4 := h.four
  have hl : (281479271743489 : Int) = (pkN 1 1 1 1 : Nat) := by decide
  have hr : pkR (fun k => f k % 2) 65536 := fun k a b => by have := h k a b; simp only []; omega
  rw [hl, pz_nat h, lI_nat, lI_nat, lN_and, pz_nat hr, lI_nat]
  congr 1
  unfold pkN
  rw [and16 _ _ (by omega) (by omega), and16 _ _ (by omega) (by omega), and16 _ _ (by omega) (by omega), bit1, bit1, bit1, bit1]
  omega
theorem or_hi {a : Nat} (h : a < 32768) : a ||| 32768 = a + 32768 := by
  have h2 := Nat.two_pow_add_eq_or_of_lt (i := 15) h 1
  rw [show (2 : Nat) ^ 15 * 1 = 32768 from rfl] at h2
  rw [Nat.or_comm]
  omega
theorem and_hi (a : Nat) : a &&& 32768 = 32768 * (a / 32768 % 2) := by
  have h1 : (a &&& 32768) % 2 ^ 15 = a % 2 ^ 15 &&& 32768 % 2 ^ 15 := Nat.and_mod_two_pow
  have h2 : (a &&& 32768) / 2 ^ 15 = a / 2 ^ 15 &&& 32768 / 2 ^ 15 := Nat.and_div_two_pow
  rw [show 32768 % 2 ^ 15 = 0 from rfl, Nat.and_zero] at h1
  rw [show 32768 / 2 ^ 15 = 1 from rfl, bit1] at h2
  omega
theorem lI_high : lI (-9223231297218904064) = lN (pkN 32768 32768 32768 32768) := by decide
theorem pz_high {f : Int → Int} (h : pkR f 32768) : lI (pkF f) ||| lI (-9223231297218904064) = lI (pkF (fun k => f k + 32768)) := by
  have h4 := h.four
  have hr : pkR (fun k => f k + 32768) 65536 := fun k a b => by have := h k a b; simp only []; omega
  rw [lI_high, pz_nat h, lI_nat, lN_or, pz_nat hr, lI_nat]
  congr 1
  unfold pkN
  rw [or16 _ _ (by omega) (by omega), or16 _ _ (by omega) (by omega), or16 _ _ (by omega) (by omega), or_hi (by omega), or_hi (by omega), or_hi (by omega), or_hi (by omega)]
  omega
/-- whether all of them keep their highest bits -/
theorem pz_keep {f : Int → Int} (h : pkR f 65536) : (lI (pkF f) &&& lI (-9223231297218904064) = lI (-9223231297218904064)) ↔ ∀ k : Int, 0 ≤ k → k < 4 → 32768 ≤ f k := by
  have h4 := h.four
  rw [lI_high, pz_nat h, lI_nat, lN_and, ← lI_nat, ← lI_nat]
  have e : pkN (f 0).toNat (f 1).toNat (f 2).toNat (f 3).toNat &&& pkN 32768 32768 32768 32768 = pkN ((f 0).toNat &&& 32768) ((f 1).toNat &&& 32768) ((f 2).toNat &&& 32768) ((f 3).toNat &&& 32768) := by
    unfold pkN
    rw [and16 _ _ (by omega) (by omega), and16 _ _ (by omega) (by omega), and16 _ _ (by omega) (by omega)]
  rw [e, and_hi, and_hi, and_hi, and_hi]
  rw [lI_inj ⟨by omega, by unfold pkN; omega⟩ ⟨by omega, by decide⟩]
  have e2 : pkN 32768 32768 32768 32768 = 9223512776490647552 := by decide
  rw [e2]
  constructor
  · intro hh
    unfold pkN at hh
    exact k4 (by omega) (by omega) (by omega) (by omega)
  · intro hh
    have a0 := hh 0 (by decide) (by decide)
    have a1 := hh 1 (by decide) (by decide)
    have a2 := hh 2 (by decide) (by decide)
    have a3 := hh 3 (by decide) (by decide)
    unfold pkN
    omega
theorem s_lx64 : ∀ n : Fin 64, ((nI n.val).toInt64 &&& 63).toBitVec = BitVec.ofNat 64 n.val := by decide +kernel
/-- a shift to the left -/
theorem lI_shl {v : Int} {n : Nat} (hv : 0 ≤ v) (hn : n < 64) : lI v <<< ((iI (n : Int)).toInt64 &&& 63) = lI (v * 2 ^ n) := by
  obtain ⟨w, rfl⟩ := Int.eq_ofNat_of_zero_le hv
  have e : ((w : Int) * 2 ^ n) = ((w * 2 ^ n : Nat) : Int) := by rw [Int.natCast_mul, Int.natCast_pow]; rfl
  rw [e, iI_nat, lI_nat, lI_nat]
  apply Int64.toBitVec_inj.1
  rw [Int64.toBitVec_shiftLeft, s_lx64 ⟨n, hn⟩]
  apply BitVec.eq_of_toNat_eq
  show (BitVec.ofNat 64 w <<< ((BitVec.ofNat 64 n).smod 64).toNat).toNat = (BitVec.ofNat 64 (w * 2 ^ n)).toNat
  have e2 : ((BitVec.ofNat 64 n).smod 64).toNat = n := by
    have key : ∀ m : Fin 64, ((BitVec.ofNat 64 m.val).smod 64).toNat = m.val := by decide +kernel
    exact key ⟨n, hn⟩
  rw [e2, BitVec.toNat_shiftLeft, BitVec.toNat_ofNat, BitVec.toNat_ofNat, Nat.shiftLeft_eq, Nat.mod_mul_mod]
theorem iI_mod (x : Int) : iI x = iI (x % 4294967296) := by
  apply Int32.toBitVec_inj.mp
  unfold iI
  rw [Int32.toBitVec_ofInt, Int32.toBitVec_ofInt]
  apply BitVec.eq_of_toNat_eq
  rw [BitVec.toNat_ofInt, BitVec.toNat_ofInt]
  omega
theorem iI_lo16 {x : Int} (h : 0 ≤ x) : iI x &&& iI 65535 = iI (x % 65536) := by
  rw [iI_mod x]
  obtain ⟨n, hn⟩ := Int.eq_ofNat_of_zero_le (show 0 ≤ x % 4294967296 by omega)
  rw [hn, show (65535 : Int) = ((65535 : Nat) : Int) from rfl, iI_nat, iI_nat, nI_and, ← iI_nat]
  have := Nat.and_two_pow_sub_one_eq_mod n 16
  rw [show (2 : Nat) ^ 16 - 1 = 65535 from rfl] at this
  rw [this]
  congr 1
  omega
/-- a kind's part -/
theorem pz_part {f : Int → Int} (h : pkR f 32768) {k : Int} (k0 : 0 ≤ k) (k1 : k < 4) : pkF f / 2 ^ (16 * k).toNat % 65536 = f k := by
  have h4 := h.four
  rcases (show k = 0 ∨ k = 1 ∨ k = 2 ∨ k = 3 by omega) with e | e | e | e <;> subst e
  · rw [show (2 : Int) ^ (16 * (0 : Int)).toNat = 1 from rfl]; unfold pkF; omega
  · rw [show (2 : Int) ^ (16 * (1 : Int)).toNat = 65536 from rfl]; unfold pkF; omega
  · rw [show (2 : Int) ^ (16 * (2 : Int)).toNat = 4294967296 from rfl]; unfold pkF; omega
  · rw [show (2 : Int) ^ (16 * (3 : Int)).toNat = 281474976710656 from rfl]; unfold pkF; omega
theorem pz_half {f : Int → Int} (h : pkR f 32768) (he : ∀ k : Int, 0 ≤ k → k < 4 → f k % 2 = 0) : pkF f / 2 = pkF (fun k => f k / 2) := by
  have a0 := he 0 (by decide) (by decide)
  have a1 := he 1 (by decide) (by decide)
  have a2 := he 2 (by decide) (by decide)
  have a3 := he 3 (by decide) (by decide)
  simp only [pkF]
  omega
