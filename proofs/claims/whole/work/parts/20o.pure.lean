/-! OUR PURE WORDS (38) -/
theorem mW_in {W H x y : Int} {g : Int → Int} (h : mW W H g x y = true) : (0 ≤ x ∧ x < W) ∧ (0 ≤ y ∧ y < H) := by
  have h2 := of_decide_eq_true h
  unfold mA at h2
  by_cases c : inT W H x y = true
  · have h3 := of_decide_eq_true c
    omega
  · rw [if_neg c] at h2; omega
