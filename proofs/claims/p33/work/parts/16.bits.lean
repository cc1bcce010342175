theorem s_lx : ∀ n : Fin 32, ((nI n.val &&& 31).toBitVec.smod 32).toNat = n.val := by decide +kernel
theorem s_ux : ∀ n : Fin 32, (((nI n.val).toUInt32 &&& Int32.toUInt32 31).toBitVec % 32).toNat = n.val := by decide +kernel
theorem toNat_pow (p : Nat) : ((2 : Int) ^ p).toNat = 2 ^ p := by
  rw [show ((2 : Int) ^ p) = ((2 ^ p : Nat) : Int) from (Int.natCast_pow 2 p).symm]; rfl
theorem iI_ushr {c p : Int} (h0 : 0 ≤ c) (h1 : c < 2147483648) (p0 : 0 ≤ p) (p1 : p < 32) : ((iI c).toUInt32 >>> ((iI p).toUInt32 &&& Int32.toUInt32 31)).toInt32 = iI (c / 2 ^ p.toNat) := by
  obtain ⟨n, rfl⟩ := Int.eq_ofNat_of_zero_le h0
  obtain ⟨d, rfl⟩ := Int.eq_ofNat_of_zero_le p0
  rw [iI_nat, iI_nat, pk_ushrN (by omega) (nI d) d (s_ux ⟨d, by omega⟩), ← iI_nat]
  congr 1
theorem iI_shl {a p : Int} (h0 : 0 ≤ a) (p0 : 0 ≤ p) (p1 : p < 32) (h1 : a * 2 ^ p.toNat < 4294967296) : iI a <<< (iI p &&& 31) = iI (a * 2 ^ p.toNat) := by
  obtain ⟨n, rfl⟩ := Int.eq_ofNat_of_zero_le h0
  obtain ⟨d, rfl⟩ := Int.eq_ofNat_of_zero_le p0
  have h2 : ((n * 2 ^ d : Nat) : Int) < 4294967296 := by
    have e : ((n * 2 ^ d : Nat) : Int) = (n : Int) * 2 ^ d := by rw [Int.natCast_mul, Int.natCast_pow]; rfl
    rw [e]; exact h1
  rw [iI_nat, iI_nat, pk_shlN (nI d &&& 31) d (s_lx ⟨d, by omega⟩) (by omega), ← iI_nat]
  congr 1
theorem iI_mask {a : Int} (k : Nat) (h0 : 0 ≤ a) (h1 : a < 2147483648) (hk : k < 31) : iI a &&& iI (2 ^ k - 1) = iI (a % 2 ^ k) := by
  obtain ⟨n, rfl⟩ := Int.eq_ofNat_of_zero_le h0
  have e : ((2 : Int) ^ k - 1) = ((2 ^ k - 1 : Nat) : Int) := by
    have h3 : 1 ≤ 2 ^ k := Nat.one_le_two_pow
    have h4 : ((2 : Int) ^ k) = ((2 ^ k : Nat) : Int) := (Int.natCast_pow 2 k).symm
    omega
  have hp : 2 ^ k ≤ 2 ^ 31 := Nat.pow_le_pow_right (by decide) (by omega)
  rw [e, iI_nat, iI_nat, pk_andN (by omega) k (by rw [pk_tn (by omega)]), ← iI_nat]
  congr 1
theorem iI_and1 {a : Int} (h0 : 0 ≤ a) (h1 : a < 2147483648) : iI a &&& iI 1 = iI (a % 2) := iI_mask 1 h0 h1 (by decide)
theorem nI_or (a b : Nat) : nI a ||| nI b = nI (a ||| b) := by
  apply Int32.toBitVec_inj.1
  show BitVec.ofNat 32 a ||| BitVec.ofNat 32 b = BitVec.ofNat 32 (a ||| b)
  exact BitVec.ofNat_or.symm
theorem nI_and (a b : Nat) : nI a &&& nI b = nI (a &&& b) := by
  apply Int32.toBitVec_inj.1
  show BitVec.ofNat 32 a &&& BitVec.ofNat 32 b = BitVec.ofNat 32 (a &&& b)
  exact BitVec.ofNat_and.symm
theorem nI_xor (a b : Nat) : nI a ^^^ nI b = nI (a ^^^ b) := by
  apply Int32.toBitVec_inj.1
  show BitVec.ofNat 32 a ^^^ BitVec.ofNat 32 b = BitVec.ofNat 32 (a ^^^ b)
  exact BitVec.ofNat_xor.symm
theorem tb_if (x k : Nat) : (if x.testBit k then 1 else 0) = x / 2 ^ k % 2 := by
  by_cases h : x / 2 ^ k % 2 = 1
  · rw [if_pos (by rw [Nat.testBit_eq_decide_div_mod_eq]; simpa using h), h]
  · rw [if_neg (by rw [Nat.testBit_eq_decide_div_mod_eq]; simpa using h)]
    omega
theorem cn_cnf (x : Nat) : cn x 16 = cnf x := by
  simp only [cn, tb_if, Nat.zero_add, Nat.pow_zero, Nat.div_one]
  rfl
theorem bcx_cn {x : Nat} (h : x < 65536) : bcx x = cn x 16 := by
  have h0 : ∀ a, a < 16 → bck a = true := fun a ha => by
    match a, ha with
    | 0, _ => exact bck_0
    | 1, _ => exact bck_1
    | 2, _ => exact bck_2
    | 3, _ => exact bck_3
    | 4, _ => exact bck_4
    | 5, _ => exact bck_5
    | 6, _ => exact bck_6
    | 7, _ => exact bck_7
    | 8, _ => exact bck_8
    | 9, _ => exact bck_9
    | 10, _ => exact bck_10
    | 11, _ => exact bck_11
    | 12, _ => exact bck_12
    | 13, _ => exact bck_13
    | 14, _ => exact bck_14
    | 15, _ => exact bck_15
    | a + 16, ha => exact absurd ha (by omega)
  have h1 := List.all_eq_true.mp (h0 (x / 4096) (by omega)) (x % 4096 / 256) (List.mem_range.mpr (by omega))
  have h2 := List.all_eq_true.mp h1 (x % 256) (List.mem_range.mpr (by omega))
  rw [show 4096 * (x / 4096) + (256 * (x % 4096 / 256) + x % 256) = x by omega] at h2
  rw [cn_cnf]
  exact Nat.eq_of_beq_eq_true h2
theorem cn_mod (c k : Nat) (hk : k ≤ 16) : cn (c % 2 ^ k) 16 = cn c k := by
  rw [cn_stop (c % 2 ^ k) hk (fun p h1 h2 => by rw [Nat.testBit_mod_two_pow]; simp; omega)]
  exact cn_cong (fun p hp => by rw [Nat.testBit_mod_two_pow]; simp [hp])
theorem bit_odd (c p : Nat) : (c.testBit p = true) ↔ c / 2 ^ p % 2 = 1 := by
  rw [Nat.testBit_eq_decide_div_mod_eq, decide_eq_true_eq]
