/-! OUR PURE WORDS (33): the model's table -/
def mA (W H : Int) (g : Int → Int) (x y : Int) : Int := if inT W H x y = true then g (W * y + x) else -5
def mW (W H : Int) (g : Int → Int) (x y : Int) : Bool := decide (mA W H g x y = 0 ∨ mA W H g x y = 2)
def asX (f : Int) : Int := if 0 < f % 8 ∧ f % 8 < 4 then 1 else if 4 < f % 8 then -1 else 0
theorem iand7 (x : Int) : iI x &&& iI 7 = iI (x % 8) := by
  apply Int32.toBitVec_inj.mp
  apply BitVec.eq_of_toNat_eq
  show ((BitVec.ofInt 32 x) &&& (BitVec.ofInt 32 7)).toNat = (BitVec.ofInt 32 (x % 8)).toNat
  rw [BitVec.toNat_and, BitVec.toNat_ofInt, BitVec.toNat_ofInt, BitVec.toNat_ofInt, show ((7 : Int) % ((2 ^ 32 : Nat) : Int)).toNat = 2 ^ 3 - 1 from rfl, Nat.and_two_pow_sub_one_eq_mod]
  omega
theorem asX_rng (f : Int) : -1 ≤ asX f ∧ asX f ≤ 1 := by unfold asX; omega
theorem asX_rx {d : Int} (h : 0 ≤ d ∧ d < 8) : asX d = rx d := by unfold asX rx; omega
theorem asX_ry {d : Int} (h : 0 ≤ d ∧ d < 8) : asX (d + 6) = ry d := by unfold asX ry; omega
theorem mA_rng {W H : Int} {g : Int → Int} (hW : 3 ≤ W ∧ W ≤ 16) (hH : 3 ≤ H ∧ H ≤ 16) (hg : ∀ k : Int, 0 ≤ k → k < 256 → 0 ≤ g k ∧ g k ≤ 2) (x y : Int) : -5 ≤ mA W H g x y ∧ mA W H g x y ≤ 2 := by
  unfold mA
  by_cases h : inT W H x y = true
  · rw [if_pos h]
    have h1 := inT_cell hW hH h
    have h2 := wh_rng hW hH
    have := hg (W * y + x) h1.1 (by omega)
    omega
  · rw [if_neg h]; omega
