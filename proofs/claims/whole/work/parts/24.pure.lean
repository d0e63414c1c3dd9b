/-! OUR PURE WORDS (42): the model's line -/
theorem sq_nn (y : Int) : 0 ≤ y * y := by
  by_cases h : 0 ≤ y
  · exact Int.mul_nonneg h h
  · exact Int.mul_nonneg_of_nonpos_of_nonpos (by omega) (by omega)
theorem smI_nn {h : Int → Int} (hh : ∀ j : Int, 0 ≤ h j) : ∀ n : Nat, 0 ≤ smI h n
  | 0 => Int.le_refl _
  | n + 1 => by have := smI_nn hh n; have := hh (n : Int); rw [smI]; omega
theorem smI_sq (kt : Int → Int) (a : Int) : ∀ n : Nat, smI (fun j => (kt j - a) * (kt j - a)) n = smI (fun j => kt j * kt j) n - 2 * (a * smI kt n) + (n : Int) * (a * a)
  | 0 => by simp [smI]
  | n + 1 => by
    rw [smI, smI, smI, smI_sq kt a n]
    (try dsimp only)
    have h1 : (kt (n : Int) - a) * (kt (n : Int) - a) = kt (n : Int) * kt (n : Int) - kt (n : Int) * a - (a * kt (n : Int) - a * a) := by rw [Int.sub_mul, Int.mul_sub, Int.mul_sub]
    have h2 : a * (smI kt n + kt (n : Int)) = a * smI kt n + a * kt (n : Int) := Int.mul_add _ _ _
    have h3 : ((n + 1 : Nat) : Int) * (a * a) = (n : Int) * (a * a) + a * a := by rw [show ((n + 1 : Nat) : Int) = (n : Int) + 1 by omega, Int.add_mul, Int.one_mul]
    have h4 := Int.mul_comm (kt (n : Int)) a
    rw [h1, h2, h3]
    omega
theorem kLo_nn (kt : Int → Int) : ∀ n : Nat, 0 ≤ kLo kt n
  | 0 => by unfold kLo kX kXX; simp [smI]
  | n + 1 => by
    have ih := kLo_nn kt n
    have hs := smI_nn (h := fun j => (kt j - kt (n : Int)) * (kt j - kt (n : Int))) (fun j => sq_nn _) n
    rw [smI_sq] at hs
    unfold kLo kX kXX at ih ⊢
    rw [smI, smI]
    (try dsimp only)
    generalize smI kt n = S1 at *
    generalize smI (fun j => kt j * kt j) n = S2 at *
    generalize kt (n : Int) = x at *
    have h1 : ((n + 1 : Nat) : Int) * (S2 + x * x) = (n : Int) * S2 + (n : Int) * (x * x) + (S2 + x * x) := by rw [show ((n + 1 : Nat) : Int) = (n : Int) + 1 by omega, Int.add_mul, Int.one_mul, Int.mul_add]
    have h2 : (S1 + x) * (S1 + x) = S1 * S1 + S1 * x + (x * S1 + x * x) := by rw [Int.add_mul, Int.mul_add, Int.mul_add]
    have h3 := Int.mul_comm S1 x
    rw [h1, h2]
    omega
theorem gcI_mul {n a b : Int} (hn : 0 ≤ n) : gcI (n * a) (n * b) = n * gcI a b := by
  unfold gcI
  rw [Int.natAbs_mul, Int.natAbs_mul, Nat.gcd_mul_left]
  have : ((n.natAbs : Nat) : Int) = n := by omega
  rw [Int.natCast_mul, this]
theorem law_sc {n U D : Int} (hn : 0 < n) : Int.tdiv (n * U) (gcI (n * U) (D * n)) = Int.tdiv U (gcI U D) ∧ Int.tdiv (D * n) (gcI (n * U) (D * n)) = Int.tdiv D (gcI U D) := by
  rw [Int.mul_comm D n, gcI_mul (by omega)]
  exact ⟨Int.mul_tdiv_mul_of_pos _ _ hn, Int.mul_tdiv_mul_of_pos _ _ hn⟩
theorem up_eq (n t X Y XX XY : Int) : Y * (n * XX - X * X) + (n * XY - X * Y) * (n * t - X) = n * (Y * XX - X * XY + (n * XY - X * Y) * t) := by
  simp only [Int.mul_add, Int.add_mul, Int.mul_sub, Int.sub_mul, Int.mul_assoc, Int.mul_comm, Int.mul_left_comm]
  omega
theorem mul_pm {a b A B : Int} (ha : -A ≤ a ∧ a ≤ A) (hb : 0 ≤ b ∧ b ≤ B) (hA : 0 ≤ A) : -(A * B) ≤ a * b ∧ a * b ≤ A * B := by
  have h1 := mul_b (a := a + A) (A := 2 * A) (b := b) (B := b) ⟨by omega, by omega⟩ ⟨hb.1, Int.le_refl _⟩
  have h2 : (a + A) * b = a * b + A * b := Int.add_mul _ _ _
  have h3 := Int.mul_le_mul_of_nonneg_left hb.2 hA
  have h4 : 2 * A * b = 2 * (A * b) := Int.mul_assoc _ _ _
  omega
