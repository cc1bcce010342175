theorem s_ul : ∀ n : Fin 64, ((nI n.val).toInt64.toUInt64 &&& Int64.toUInt64 63) = UInt64.ofNat n.val := by decide +kernel
theorem lI_ushrN {n k : Nat} (hn : n < 18446744073709551616) (hk : k < 64) : ((lI (n : Int)).toUInt64 >>> ((iI (k : Int)).toInt64.toUInt64 &&& Int64.toUInt64 63)).toInt64 = lI ((n / 2 ^ k : Nat) : Int) := by
  have h : UInt64.ofNat n >>> UInt64.ofNat k = UInt64.ofNat (n / 2 ^ k) := by
    apply UInt64.toNat_inj.mp
    rw [UInt64.toNat_shiftRight, UInt64.toNat_ofNat', UInt64.toNat_ofNat', UInt64.toNat_ofNat', Nat.shiftRight_eq_div_pow, Nat.mod_eq_of_lt (show n < 2 ^ 64 from hn), Nat.mod_eq_of_lt (show k < 2 ^ 64 by omega), Nat.mod_eq_of_lt hk, Nat.mod_eq_of_lt (show n / 2 ^ k < 2 ^ 64 from Nat.lt_of_le_of_lt (Nat.div_le_self _ _) hn)]
  rw [iI_nat, s_ul ⟨k, hk⟩, lI_nat, lI_nat]
  exact congrArg UInt64.toInt64 h
theorem lI_mod (x : Int) : lI x = lI ((x % 18446744073709551616).toNat : Int) := by
  rw [show (((x % 18446744073709551616).toNat : Nat) : Int) = x % 18446744073709551616 by omega]
  apply Int64.toBitVec_inj.mp
  unfold lI
  rw [Int64.toBitVec_ofInt, Int64.toBitVec_ofInt]
  apply BitVec.eq_of_toNat_eq
  rw [BitVec.toNat_ofInt, BitVec.toNat_ofInt]
  omega
/-- the highest 31 bits but the sign's: a turn's number -/
def rnd (x : Int) : Int := x % 18446744073709551616 / 8589934592
theorem rnd_in (x : Int) : 0 ≤ rnd x ∧ rnd x < 2147483648 := by unfold rnd; omega
theorem lI_rnd (x : Int) : ((lI x).toUInt64 >>> ((iI 33).toInt64.toUInt64 &&& Int64.toUInt64 63)).toInt64 = lI (rnd x) := by
  rw [lI_mod x]
  have h := lI_ushrN (n := (x % 18446744073709551616).toNat) (k := 33) (by omega) (by decide)
  refine h.trans (congrArg lI ?_)
  unfold rnd
  rw [Int.natCast_ediv]
  omega
def siX (z : Int) : Nat → Int
  | 0 => z
  | k + 1 => siX z k * 6364136223846793005 + 1442695040888963407
def siT (g : Int → Int) (r : Int) : Int → Int := if r % 16 < 4 ∨ 13 < r % 16 then trR g (r % 16) (r / 16) else trU g (r % 16) (r / 16)
def siG (g : Int → Int) (z : Int) : Nat → Int → Int
  | 0 => g
  | k + 1 => siT (siG g z k) (rnd (siX z (k + 1)))
theorem wf_siG {g : Int → Int} (h : wf g) (z : Int) (k : Nat) : wf (siG g z k) := by
  induction k with
  | zero => exact h
  | succ k ih =>
    rw [siG]
    unfold siT
    split
    · exact wf_trR ih _ _
    · exact wf_trU ih _ _
def siA (g : Int → Int) : Int := 10000 * g 0 + 100 * runsF g + (if 99 < gapF g then 99 else gapF g)
def cd_sim (m : Int) : Int := if 1 ≤ m ∧ m ≤ 60 then 0 else 1
theorem fz_m {S Sx : SS} {c : Int} (h : fm (us S 82 (uq (S 82) 0 c)) Sx 85) : fz S c Sx := fun m h5 _ _ => h m h5
