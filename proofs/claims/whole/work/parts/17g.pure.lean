/-! OUR PURE WORDS (23) -/
theorem rg_step {f : Int → Int} {wd : Int → Bool} {bl m9 m2 n9 r : Int} {n k : Nat} (h : m9 = rgN f wd bl n k) (hw : wd ((k : Int) / 8) = true) (hs : r ≤ n9 ↔ hitN f bl (((k : Int) / 8 * 8 + (k : Int) % 8) * 9 + 0) n = true) (hm : (r ≤ n9 ∧ m2 = m9 + 1) ∨ (¬ r ≤ n9 ∧ m2 = m9)) : m2 = rgN f wd bl n (k + 1) := by
  rw [rgN]
  rcases hm with w | w
  · rw [if_pos ⟨hw, hs.mp w.1⟩]; omega
  · rw [if_neg (fun q => w.1 (hs.mpr q.2))]; omega
