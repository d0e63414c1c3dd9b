/-! OUR PURE WORDS (30) -/
theorem sv_fa (f : Int → Int) (wd : Int → Bool) : ∀ k : Nat, 0 ≤ (svN f wd k).2.1 ∧ (svN f wd k).2.1 ≤ (k : Int)
  | 0 => ⟨Int.le_refl _, Int.le_refl _⟩
  | k + 1 => by
    have ih := sv_fa f wd k
    rw [svN]
    by_cases h : wd ((k : Int) / 8) = true
    · rw [if_pos h]
      have e : (svS f (svN f wd k) (((k : Int) / 8 * 8 + (k : Int) % 8) * 9 + 0)).2.1 = (svN f wd k).2.1 + (if fateF f (svN f wd k).1 (((k : Int) / 8 * 8 + (k : Int) % 8) * 9 + 0) = 1 then 1 else 0) := rfl
      omega
    · rw [if_neg h]; omega
