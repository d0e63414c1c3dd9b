/-! OUR PURE WORDS (15): the text's tokens -/
def isL (b : Int) : Bool := decide (97 ≤ b ∧ b ≤ 122)
def isD (b : Int) : Bool := decide (48 ≤ b ∧ b ≤ 57)
/-- behind the blanks; behind the letters; behind the digits -/
def skB (tb : Int → Int) (tn : Int) : Nat → Int → Int
  | 0, p => p
  | m + 1, p => if p < tn ∧ tb p = 32 then skB tb tn m (p + 1) else p
def skL (tb : Int → Int) (tn : Int) : Nat → Int → Int
  | 0, p => p
  | m + 1, p => if p < tn ∧ isL (tb p) = true then skL tb tn m (p + 1) else p
def skD (tb : Int → Int) (tn : Int) : Nat → Int → Int
  | 0, p => p
  | m + 1, p => if p < tn ∧ isD (tb p) = true then skD tb tn m (p + 1) else p
/-- the number so far, no more than 1000 -/
def nuV (tb : Int → Int) (tn : Int) : Nat → Int → Int → Int
  | 0, _, v => v
  | m + 1, p, v => if p < tn ∧ isD (tb p) = true then nuV tb tn m (p + 1) (if 1000 < v * 10 + tb p - 48 then 1000 else v * 10 + tb p - 48) else v
/-- the bytes from a on, k of them, are those of the j-th word -/
def eqW (tb : Int → Int) (a : Int) (j : Nat) : Nat → Bool
  | 0 => true
  | k + 1 => eqW tb a j k && decide (jch j (k : Int) = tb (a + (k : Int)))
def isW (tb : Int → Int) (a e : Int) (j : Nat) : Bool := decide (jle j = e - a) && eqW tb a j (jSl.getD j 0)
/-- the last of the first n words that it is -/
def wdx (tb : Int → Int) (a e : Int) : Nat → Int
  | 0 => -9
  | n + 1 => if isW tb a e n = true then (n : Int) else wdx tb a e n
theorem wdx_rng (tb : Int → Int) (a e : Int) : ∀ n : Nat, wdx tb a e n = -9 ∨ (0 ≤ wdx tb a e n ∧ wdx tb a e n < n)
  | 0 => Or.inl rfl
  | n + 1 => by
    rw [wdx]
    by_cases h : isW tb a e n = true
    · rw [if_pos h]; omega
    · rw [if_neg h]; have := wdx_rng tb a e n; omega
theorem skB_rng (tb : Int → Int) (tn : Int) : ∀ (m : Nat) (p : Int), p ≤ skB tb tn m p ∧ (p ≤ tn → skB tb tn m p ≤ tn)
  | 0, p => by simp [skB]
  | m + 1, p => by
    rw [skB]
    by_cases h : p < tn ∧ tb p = 32
    · rw [if_pos h]; have := skB_rng tb tn m (p + 1); omega
    · rw [if_neg h]; omega
theorem skL_rng (tb : Int → Int) (tn : Int) : ∀ (m : Nat) (p : Int), p ≤ skL tb tn m p ∧ (p ≤ tn → skL tb tn m p ≤ tn)
  | 0, p => by simp [skL]
  | m + 1, p => by
    rw [skL]
    by_cases h : p < tn ∧ isL (tb p) = true
    · rw [if_pos h]; have := skL_rng tb tn m (p + 1); omega
    · rw [if_neg h]; omega
theorem skD_rng (tb : Int → Int) (tn : Int) : ∀ (m : Nat) (p : Int), p ≤ skD tb tn m p ∧ (p ≤ tn → skD tb tn m p ≤ tn)
  | 0, p => by simp [skD]
  | m + 1, p => by
    rw [skD]
    by_cases h : p < tn ∧ isD (tb p) = true
    · rw [if_pos h]; have := skD_rng tb tn m (p + 1); omega
    · rw [if_neg h]; omega
/-- the token behind p: its place, its sort, its value, where it ends -/
def tkF (tb : Int → Int) (tn p : Int) : Int := skB tb tn 300 p
def tkS (tb : Int → Int) (tn p : Int) : Int :=
  if tn ≤ tkF tb tn p then 0 else if isL (tb (tkF tb tn p)) = true then (if wdx tb (tkF tb tn p) (skL tb tn 300 (tkF tb tn p)) 6 = -9 then 4 else 1)
  else if isD (tb (tkF tb tn p)) = true then (if 999 < nuV tb tn 300 (tkF tb tn p) 0 ∨ (tb (tkF tb tn p) = 48 ∧ 1 < skD tb tn 300 (tkF tb tn p) - tkF tb tn p) then 4 else 2)
  else if tb (tkF tb tn p) = 59 then 3 else 4
def tkV (tb : Int → Int) (tn p : Int) : Int := if isL (tb (tkF tb tn p)) = true then wdx tb (tkF tb tn p) (skL tb tn 300 (tkF tb tn p)) 6 else nuV tb tn 300 (tkF tb tn p) 0
def tkE (tb : Int → Int) (tn p : Int) : Int :=
  if tn ≤ tkF tb tn p then tkF tb tn p else if isL (tb (tkF tb tn p)) = true then skL tb tn 300 (tkF tb tn p) else if isD (tb (tkF tb tn p)) = true then skD tb tn 300 (tkF tb tn p) else tkF tb tn p + 1
abbrev TxtI (tb : Int → Int) (tn : Int) : Prop := (0 ≤ tn ∧ tn ≤ 300) ∧ ∀ j : Int, 0 ≤ j → j < tn → 0 ≤ tb j ∧ tb j < 256
theorem skB_s {tb : Int → Int} {tn p : Int} {m : Nat} (h : p < tn ∧ tb p = 32) (hm : tn - p ≤ m) : skB tb tn (m - 1) (p + 1) = skB tb tn m p ∧ tn - (p + 1) ≤ ((m - 1 : Nat) : Int) := by
  cases m with
  | zero => exact absurd hm (by omega)
  | succ k => exact ⟨by rw [skB, if_pos h]; rfl, by omega⟩
theorem skB_e {tb : Int → Int} {tn p : Int} {m : Nat} (h : ¬ (p < tn ∧ tb p = 32)) : skB tb tn m p = p := by
  cases m with
  | zero => rfl
  | succ k => rw [skB, if_neg h]
theorem skL_s {tb : Int → Int} {tn p : Int} {m : Nat} (h : p < tn ∧ isL (tb p) = true) (hm : tn - p ≤ m) : skL tb tn (m - 1) (p + 1) = skL tb tn m p ∧ tn - (p + 1) ≤ ((m - 1 : Nat) : Int) := by
  cases m with
  | zero => exact absurd hm (by omega)
  | succ k => exact ⟨by rw [skL, if_pos h]; rfl, by omega⟩
theorem skL_e {tb : Int → Int} {tn p : Int} {m : Nat} (h : ¬ (p < tn ∧ isL (tb p) = true)) : skL tb tn m p = p := by
  cases m with
  | zero => rfl
  | succ k => rw [skL, if_neg h]
theorem skD_s {tb : Int → Int} {tn p v : Int} {m : Nat} (h : p < tn ∧ isD (tb p) = true) (hm : tn - p ≤ m) : skD tb tn (m - 1) (p + 1) = skD tb tn m p ∧ nuV tb tn (m - 1) (p + 1) (if 1000 < v * 10 + tb p - 48 then 1000 else v * 10 + tb p - 48) = nuV tb tn m p v ∧ tn - (p + 1) ≤ ((m - 1 : Nat) : Int) := by
  cases m with
  | zero => exact absurd hm (by omega)
  | succ k => exact ⟨by rw [skD, if_pos h]; rfl, by rw [nuV, if_pos h]; rfl, by omega⟩
theorem skD_e {tb : Int → Int} {tn p v : Int} {m : Nat} (h : ¬ (p < tn ∧ isD (tb p) = true)) : skD tb tn m p = p ∧ nuV tb tn m p v = v := by
  cases m with
  | zero => exact ⟨rfl, rfl⟩
  | succ k => exact ⟨by rw [skD, if_neg h], by rw [nuV, if_neg h]⟩
theorem isD_rng {b : Int} (h : isD b = true) : 48 ≤ b ∧ b ≤ 57 := of_decide_eq_true h
theorem isL_rng {b : Int} (h : isL b = true) : 97 ≤ b ∧ b ≤ 122 := of_decide_eq_true h
theorem eqW_f {tb : Int → Int} {a : Int} {j k : Nat} (h : eqW tb a j k = false) : ∀ {n : Nat}, k ≤ n → eqW tb a j n = false
  | 0, hn => by rw [show k = 0 by omega] at h; exact h
  | n + 1, hn => by
    by_cases e : k = n + 1
    · rw [← e]; exact h
    · rw [eqW, eqW_f h (n := n) (by omega)]; rfl
