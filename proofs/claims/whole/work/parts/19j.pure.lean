/-! OUR PURE WORDS (29) -/
def lawF (kt ks : Int → Int) (n : Nat) (t w : Int) : Int :=
  if t < 0 ∨ 99 < t ∨ w < 0 ∨ 3 < w then -1000000 else if 0 < kLo kt n then (if w % 2 = 0 then Int.tdiv (kUp kt ks n t (decide (2 ≤ w))) (gcI (kUp kt ks n t (decide (2 ≤ w))) (kLo kt n)) else Int.tdiv (kLo kt n) (gcI (kUp kt ks n t (decide (2 ≤ w))) (kLo kt n))) else -1000000
def circF (x y : Int) : Int := if y < 1 ∨ 360 < y ∨ x < 0 ∨ y ≤ x then -1 else y / gcI (2 * x) y
theorem law_ok {kt ks : Int → Int} {n : Nat} {t w : Int} {b : Bool} (h1 : ¬ (t < 0 ∨ 99 < t ∨ w < 0 ∨ 3 < w)) (h2 : 0 < kLo kt n) (hb : decide (2 ≤ w) = b) : lawF kt ks n t w = if w % 2 = 0 then Int.tdiv (kUp kt ks n t b) (gcI (kUp kt ks n t b) (kLo kt n)) else Int.tdiv (kLo kt n) (gcI (kUp kt ks n t b) (kLo kt n)) := by unfold lawF; rw [if_neg h1, if_pos h2, hb]
theorem law_no1 {kt ks : Int → Int} {n : Nat} {t w : Int} (h1 : t < 0 ∨ 99 < t ∨ w < 0 ∨ 3 < w) : lawF kt ks n t w = -1000000 := by unfold lawF; rw [if_pos h1]
theorem law_no2 {kt ks : Int → Int} {n : Nat} {t w : Int} (h1 : ¬ (t < 0 ∨ 99 < t ∨ w < 0 ∨ 3 < w)) (h2 : ¬ 0 < kLo kt n) : lawF kt ks n t w = -1000000 := by unfold lawF; rw [if_neg h1, if_neg h2]
theorem ftN_1 {f tr : Int → Int} {q : Int} (h : 0 ≤ q ∧ q / 72 = tr 0) : ftN f tr q 1 = true := by
  show (true && decide (0 ≤ q ∧ q / 72 = tr 0)) = true
  rw [decide_eq_true h]
  rfl
theorem ftN_s {f tr : Int → Int} {q i st : Int} {k : Nat} (hi : i = (k : Int) + 1) (h : ftN f tr q (k + 1) = true) (hs : st = itn f q (k + 1)) (hc : 0 ≤ st ∧ st / 72 = tr i) : ftN f tr q (k + 1 + 1) = true := by
  rw [ftN, h, ← hs, show ((k + 1 : Nat) : Int) = i by omega, decide_eq_true hc]
  rfl
theorem ftN_no {f tr : Int → Int} {q i st tk : Int} {k : Nat} (hi : i = (k : Int) + 1) (hs : st = itn f q (k + 1)) (hc : ¬ (0 ≤ st ∧ st / 72 = tr i)) (ht : i < tk) : ftN f tr q tk.toNat = false := by
  have hf : ftN f tr q (k + 1 + 1) = false := by
    rw [ftN, ← hs, show ((k + 1 : Nat) : Int) = i by omega, decide_eq_false hc]
    exact Bool.and_false _
  have hfe := ftN_f hf (tk.toNat - (k + 1 + 1))
  rw [show k + 1 + 1 + (tk.toNat - (k + 1 + 1)) = tk.toNat by omega] at hfe
  exact hfe
