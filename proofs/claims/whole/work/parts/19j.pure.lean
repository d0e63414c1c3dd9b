/-! OUR PURE WORDS (29) -/
def lawF (kt ks : Int → Int) (n : Nat) (t w : Int) : Int :=
  if t < 0 ∨ 99 < t ∨ w < 0 ∨ 3 < w then -1000000 else if 0 < kLo kt n then (if w % 2 = 0 then Int.tdiv (kUp kt ks n t (decide (2 ≤ w))) (gcI (kUp kt ks n t (decide (2 ≤ w))) (kLo kt n)) else Int.tdiv (kLo kt n) (gcI (kUp kt ks n t (decide (2 ≤ w))) (kLo kt n))) else -1000000
def circF (x y : Int) : Int := if y < 1 ∨ 360 < y ∨ x < 0 ∨ y ≤ x then -1 else y / gcI (2 * x) y
theorem law_ok {kt ks : Int → Int} {n : Nat} {t w : Int} {b : Bool} (h1 : ¬ (t < 0 ∨ 99 < t ∨ w < 0 ∨ 3 < w)) (h2 : 0 < kLo kt n) (hb : decide (2 ≤ w) = b) : lawF kt ks n t w = if w % 2 = 0 then Int.tdiv (kUp kt ks n t b) (gcI (kUp kt ks n t b) (kLo kt n)) else Int.tdiv (kLo kt n) (gcI (kUp kt ks n t b) (kLo kt n)) := by unfold lawF; rw [if_neg h1, if_pos h2, hb]
theorem law_no1 {kt ks : Int → Int} {n : Nat} {t w : Int} (h1 : t < 0 ∨ 99 < t ∨ w < 0 ∨ 3 < w) : lawF kt ks n t w = -1000000 := by unfold lawF; rw [if_pos h1]
theorem law_no2 {kt ks : Int → Int} {n : Nat} {t w : Int} (h1 : ¬ (t < 0 ∨ 99 < t ∨ w < 0 ∨ 3 < w)) (h2 : ¬ 0 < kLo kt n) : lawF kt ks n t w = -1000000 := by unfold lawF; rw [if_neg h1, if_neg h2]
