/-! OUR PURE WORDS (32): what is typed -/
theorem u64_lI (u : UInt64) : u.toInt64 = lI (u.toNat : Int) := by
  unfold lI
  apply Int64.toBitVec_inj.mp
  show u.toBitVec = BitVec.ofInt 64 (u.toBitVec.toNat : Int)
  rw [BitVec.ofInt_natCast, BitVec.ofNat_toNat, BitVec.setWidth_eq]
theorem lI_u64 (x : Int) : (lI x).toUInt64.toNat = (x % 18446744073709551616).toNat := by
  show (BitVec.ofInt 64 x).toNat = _
  rw [BitVec.toNat_ofInt]
  rfl
theorem lushr8 {v i : Int} {n : Nat} (hi : i = (n : Int)) (hn : n ≤ 7) : ((lI v).toUInt64 >>> ((iI (8 * i)).toInt64.toUInt64 &&& Int64.toUInt64 63)).toInt64 = lI (v % 18446744073709551616 / 256 ^ n) := by
  subst hi
  rw [u64_lI, UInt64.toNat_shiftRight, lI_u64]
  have hs : ((iI (8 * (n : Int))).toInt64.toUInt64 &&& Int64.toUInt64 63).toNat % 64 = 8 * n := by
    rcases (show n = 0 ∨ n = 1 ∨ n = 2 ∨ n = 3 ∨ n = 4 ∨ n = 5 ∨ n = 6 ∨ n = 7 by omega) with h | h | h | h | h | h | h | h <;> subst h <;> rfl
  rw [hs, Nat.shiftRight_eq_div_pow]
  have hp : (2 : Nat) ^ (8 * n) = 256 ^ n := by rw [Nat.pow_mul]
  rw [hp]
  rcases (show n = 0 ∨ n = 1 ∨ n = 2 ∨ n = 3 ∨ n = 4 ∨ n = 5 ∨ n = 6 ∨ n = 7 by omega) with h | h | h | h | h | h | h | h <;> subst h <;> (apply congrArg lI; simp only [Nat.reducePow, Int.reducePow]; omega)
theorem iand255 (x : Int) : iI x &&& iI 255 = iI (x % 256) := by
  apply Int32.toBitVec_inj.mp
  apply BitVec.eq_of_toNat_eq
  show ((BitVec.ofInt 32 x) &&& (BitVec.ofInt 32 255)).toNat = (BitVec.ofInt 32 (x % 256)).toNat
  rw [BitVec.toNat_and, BitVec.toNat_ofInt, BitVec.toNat_ofInt, BitVec.toNat_ofInt, show ((255 : Int) % ((2 ^ 32 : Nat) : Int)).toNat = 2 ^ 8 - 1 from rfl, Nat.and_two_pow_sub_one_eq_mod]
  omega
def byF (v : Int) (n : Nat) : Int := v % 18446744073709551616 / 256 ^ n % 256
theorem byF_rng (v : Int) (n : Nat) : 0 ≤ byF v n ∧ byF v n < 256 := by unfold byF; omega
def tyB (v : Int) (tb : Int → Int) (tn : Int) (n : Nat) : Nat → Int → Int
  | 0 => tb
  | k + 1 => upZ (tyB v tb tn n k) (tn + (k : Int)) (byF v (n - 1 - k))
theorem tyB_rng {v : Int} {tb : Int → Int} {tn : Int} {n : Nat} (h : ∀ j : Int, 0 ≤ j → j < tn → 0 ≤ tb j ∧ tb j < 256) : ∀ k : Nat, ∀ j : Int, 0 ≤ j → j < tn + (k : Int) → 0 ≤ tyB v tb tn n k j ∧ tyB v tb tn n k j < 256
  | 0, j, a, b => h j a (by omega)
  | k + 1, j, a, b => by
    rw [tyB]
    by_cases e : j = tn + (k : Int)
    · rw [e, upZ_s]; exact byF_rng v _
    · rw [upZ_n e]; exact tyB_rng h k j a (by omega)
