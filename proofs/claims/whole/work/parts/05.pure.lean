/-! OUR PURE WORDS (05): the table, as both sides see it -/
def kd (W H : Int) (g : Int → Int) (c : Int) : Int := if 0 ≤ c ∧ c < W * H ∧ c < 256 then g c else -9
def isWd (W H : Int) (g : Int → Int) (c : Int) : Bool := decide (kd W H g c = 0 ∨ kd W H g c = 2)
def isBk (W H : Int) (g : Int → Int) (c : Int) : Bool := decide (kd W H g c = 2)
def inT (W H x y : Int) : Bool := decide (0 ≤ x ∧ x < W ∧ 0 ≤ y ∧ y < H)
def offI (W H c d far : Int) : Int := if c < 0 ∨ W < 1 then -9 else if inT W H (c % W + far * rx d) (c / W + far * ry d) = true then W * (c / W + far * ry d) + (c % W + far * rx d) else -9
def trn (W H : Int) (g : Int → Int) (c d far : Int) : Bool := isBk W H g (offI W H c d 1) || !isWd W H g (offI W H c d far)
def atI (n : Int) (g : Int → Int) (i : Int) : Int := if 0 ≤ i ∧ i < n then g i else 0
def setI (n : Int) (g : Int → Int) (i v : Int) : Int → Int := if 0 ≤ i ∧ i < n then upZ g i v else g
theorem wh_rng {W H : Int} (hW : 3 ≤ W ∧ W ≤ 16) (hH : 3 ≤ H ∧ H ≤ 16) : 9 ≤ W * H ∧ W * H ≤ 256 := by
  have h1 := Int.mul_le_mul hW.1 hH.1 (by omega) (by omega)
  have h2 := Int.mul_le_mul hW.2 hH.2 (by omega) (by omega)
  omega
theorem rx_rng (d : Int) : -1 ≤ rx d ∧ rx d ≤ 1 := by unfold rx; omega
theorem ry_rng (d : Int) : -1 ≤ ry d ∧ ry d ≤ 1 := by unfold ry; omega
theorem mul_rng {a b n : Int} (ha : 0 ≤ a ∧ a ≤ n) (hb : -1 ≤ b ∧ b ≤ 1) : -n ≤ a * b ∧ a * b ≤ n := by
  rcases (show b = -1 ∨ b = 0 ∨ b = 1 by omega) with h | h | h <;> subst h <;> omega
theorem kd_rng {W H : Int} {g : Int → Int} (hg : ∀ k : Int, 0 ≤ k → k < 256 → 0 ≤ g k ∧ g k ≤ 2) (c : Int) : -9 ≤ kd W H g c ∧ kd W H g c ≤ 2 := by
  unfold kd
  by_cases h : 0 ≤ c ∧ c < W * H ∧ c < 256
  · rw [if_pos h]; have := hg c h.1 h.2.2; omega
  · rw [if_neg h]; omega
/-- the place of a cell -/
theorem cell_rng {W H x y : Int} (hW : 3 ≤ W ∧ W ≤ 16) (hH : 3 ≤ H ∧ H ≤ 16) (hx : 0 ≤ x ∧ x < W) (hy : 0 ≤ y ∧ y < H) : 0 ≤ W * y + x ∧ W * y + x < W * H := by
  have h1 := Int.mul_le_mul (Int.le_refl W) (show y + 1 ≤ H by omega) (by omega) (by omega)
  have h2 := Int.mul_nonneg (show 0 ≤ W by omega) hy.1
  have h3 : W * (y + 1) = W * y + W := by rw [Int.mul_add, Int.mul_one]
  omega
theorem cell_mod {W x y : Int} (hx : 0 ≤ x ∧ x < W) : (W * y + x) % W = x := by
  rw [Int.mul_add_emod_self_left]
  exact Int.emod_eq_of_lt hx.1 hx.2
theorem cell_div {W x y : Int} (hx : 0 ≤ x ∧ x < W) : (W * y + x) / W = y := by
  rw [Int.mul_add_ediv_left _ _ (by omega), Int.ediv_eq_zero_of_lt hx.1 hx.2]
  omega
theorem cell_split {W H c : Int} (hW : 3 ≤ W ∧ W ≤ 16) (hc : 0 ≤ c ∧ c < W * H) : 0 ≤ c % W ∧ c % W < W ∧ 0 ≤ c / W ∧ c / W < H ∧ W * (c / W) + c % W = c := by
  have h1 := Int.emod_nonneg c (show W ≠ 0 by omega)
  have h2 := Int.emod_lt_of_pos c (show 0 < W by omega)
  have h3 := Int.ediv_nonneg hc.1 (show 0 ≤ W by omega)
  have h4 : c / W < H := Int.ediv_lt_of_lt_mul (by omega) (by rw [Int.mul_comm]; exact hc.2)
  have h5 := Int.mul_ediv_add_emod c W
  omega
theorem offI_rng {W H : Int} (hW : 3 ≤ W ∧ W ≤ 16) (hH : 3 ≤ H ∧ H ≤ 16) (c d far : Int) : -9 ≤ offI W H c d far ∧ offI W H c d far < W * H := by
  unfold offI
  have hwh := wh_rng hW hH
  by_cases h1 : c < 0 ∨ W < 1
  · rw [if_pos h1]; omega
  · rw [if_neg h1]
    by_cases h2 : inT W H (c % W + far * rx d) (c / W + far * ry d) = true
    · rw [if_pos h2]
      have h3 := of_decide_eq_true h2
      have h4 := cell_rng hW hH ⟨h3.1, h3.2.1⟩ ⟨h3.2.2.1, h3.2.2.2⟩
      omega
    · rw [if_neg h2]; omega
