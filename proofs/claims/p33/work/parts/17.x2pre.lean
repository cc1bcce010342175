/-- wf of the class's necklace i, said of its cells -/
def wfC (S : SS) (i : Nat) : Prop :=
  (0 ≤ S (4 * i) 0 ∧ S (4 * i) 0 ≤ 16) ∧ (0 ≤ S (4 * i) 1 ∧ (S (4 * i) 1 < S (4 * i) 0 ∨ (S (4 * i) 0 = 0 ∧ S (4 * i) 1 = 0))) ∧ (0 ≤ S (4 * i) 2 ∧ S (4 * i) 2 ≤ 1) ∧ (0 ≤ S (4 * i) 4 ∧ S (4 * i) 4 ≤ 1) ∧ (0 ≤ S (4 * i) 5 ∧ S (4 * i) 5 < 65536) ∧
  (∀ p : Nat, (S (4 * i) 5).toNat.testBit p = true → 1 ≤ p ∧ (p : Int) < S (4 * i) 0) ∧
  (∀ j : Int, 0 ≤ j → j < S (4 * i) 0 → (0 ≤ S (4 * i + 1) j ∧ S (4 * i + 1) j < 4) ∧ 1 ≤ S (4 * i + 2) j ∧ S (4 * i + 2) j ≤ 9) ∧
  (∀ p : Int, 0 ≤ p → p < 16 → -1 ≤ S (4 * i + 3) p ∧ S (4 * i + 3) p ≤ 1) ∧
  (∀ p : Int, 1 ≤ p → p < S (4 * i) 0 → (S (4 * i) 5).toNat.testBit p.toNat = false → S (4 * i + 3) p = S (4 * i + 3) (p - 1))
theorem wfS {S : SS} {i : Nat} (h : wf (vw S i)) : wfC S i := by
  obtain ⟨a1, a2, a3, a4, a5, a6, a7, a8, a9⟩ := h
  refine ⟨a1, a2, a3, a4, a5, a6, fun j h0 h1 => ?_, fun p h0 h1 => ?_, fun p h0 h1 h2 => ?_⟩
  · have h2 := a7 j h0 h1
    have h3 : j < 16 := Int.lt_of_lt_of_le h1 a1.2
    rw [vw_k S i h0 h3, vw_w S i h0 h3] at h2
    exact h2
  · have h2 := a8 p h0 h1
    rw [vw_o S i h0 h1] at h2
    exact h2
  · have h3 := a9 p h0 h1 h2
    have h4 : p < 16 := Int.lt_of_lt_of_le h1 a1.2
    rw [vw_o S i (by omega) (by omega), vw_o S i (by omega) (by omega)] at h3
    exact h3
theorem vw_0 (S : SS) (i : Nat) : vw S i 0 = S (4 * i) 0 := rfl
theorem vw_1 (S : SS) (i : Nat) : vw S i 1 = S (4 * i) 1 := rfl
theorem vw_2 (S : SS) (i : Nat) : vw S i 2 = S (4 * i) 2 := rfl
theorem vw_3 (S : SS) (i : Nat) : vw S i 3 = S (4 * i) 3 := rfl
theorem vw_4 (S : SS) (i : Nat) : vw S i 4 = S (4 * i) 4 := rfl
theorem vw_5 (S : SS) (i : Nat) : vw S i 5 = S (4 * i) 5 := rfl
theorem valF_vw (S : SS) (i : Nat) {j : Int} (h0 : 0 ≤ j) (h1 : j < 16) : valF (vw S i) j = if S (4 * i) 4 = 0 then 1 else S (4 * i + 2) j := by
  unfold valF
  rw [vw_w S i h0 h1]
  rfl
/-- bits of cuts -/
theorem cut_bit {c p : Int} (h0 : 0 ≤ c) (p0 : 0 ≤ p) : c / 2 ^ p.toNat % 2 = 1 ↔ c.toNat.testBit p.toNat = true := by
  obtain ⟨n, rfl⟩ := Int.eq_ofNat_of_zero_le h0
  rw [bit_odd]
  have e : ((n : Int) / 2 ^ p.toNat % 2) = ((n / 2 ^ p.toNat % 2 : Nat) : Int) := by
    rw [Int.natCast_emod, Int.natCast_ediv, Int.natCast_pow]
    rfl
  rw [e]
  show ((n / 2 ^ p.toNat % 2 : Nat) : Int) = 1 ↔ n / 2 ^ p.toNat % 2 = 1
  omega
theorem run_mask {c p : Int} (h0 : 0 ≤ c) (h1 : c < 65536) (p0 : 0 ≤ p) (p1 : p < 16) : iI c &&& iI (2 * 2 ^ p.toNat - 1) = iI ((c.toNat % 2 ^ (p.toNat + 1) : Nat) : Int) := by
  have e : (2 : Int) * 2 ^ p.toNat = 2 ^ (p.toNat + 1) := by rw [Int.pow_succ, Int.mul_comm]
  rw [e, iI_mask (p.toNat + 1) h0 (by omega) (by omega)]
  obtain ⟨n, rfl⟩ := Int.eq_ofNat_of_zero_le h0
  congr 1
theorem pow2_lt {p : Int} (h : p < 16) : (2 : Int) ^ p.toNat ≤ 32768 ∧ 1 ≤ (2 : Int) ^ p.toNat := by
  have h1 : (2 : Nat) ^ p.toNat ≤ 2 ^ 15 := Nat.pow_le_pow_right (by decide) (by omega)
  have h2 : 1 ≤ (2 : Nat) ^ p.toNat := Nat.one_le_two_pow
  have e : (2 : Int) ^ p.toNat = ((2 ^ p.toNat : Nat) : Int) := (Int.natCast_pow 2 _).symm
  omega
section GX
variable {Y : gY} {X : gX} {S : SS} {own : String} {cc : ByteArray} {nL : Nat} {ret : Option FieldType} {k : Nat} {pc q : Nat} {L L' : List (Nat × Value)} {st : List Value}
theorem g_ldcw (B : gB Y X own cc nL ret k) {i : Nat} {v : Int32} {z : Int} (d : decode cc pc = .ok (.ldc_w i, 3)) (hq : pc + 3 = q) (hw : Cond.constant own i v ∈ lw_g) (hv : v = iI z) (kk : gW Y X S q L (.int (iI z) :: st)) : gW Y X S pc L st := by
  subst hq
  intro H locs ls hH hl
  exact lv_ldcw B.1 B.2.1 B.2.2.2.2.1 (B.2.2.2.2.2.1 _ hw) d (hv ▸ (kk H locs ls hH hl))
end GX
theorem iI_ushrN {x k : Nat} (hx : x < 2147483648) (hk : k < 32) : ((iI x).toUInt32 >>> ((iI k).toUInt32 &&& Int32.toUInt32 31)).toInt32 = iI ((x / 2 ^ k : Nat) : Int) := by
  rw [iI_ushr (by omega) (by omega) (by omega) (by omega)]
  congr 1
theorem iI_andN (a b : Nat) : iI a &&& iI b = iI ((a &&& b : Nat) : Int) := by rw [iI_nat, iI_nat, nI_and, ← iI_nat]
theorem iI_orN (a b : Nat) : iI a ||| iI b = iI ((a ||| b : Nat) : Int) := by rw [iI_nat, iI_nat, nI_or, ← iI_nat]
theorem iI_xorN (a b : Nat) : iI a ^^^ iI b = iI ((a ^^^ b : Nat) : Int) := by rw [iI_nat, iI_nat, nI_xor, ← iI_nat]
