/-! OUR PURE WORDS (06): stands, the next one, ways -/
def ldI (W H : Int) (g : Int → Int) (far k : Int) : Int := if trn W H g (k / 8) (k % 8) far = true then -1 else if isWd W H g (offI W H (k / 8) (k % 8) 1) = true then offI W H (k / 8) (k % 8) 1 else -2
def nxI (a : Int → Int) (tu be q : Int) : Int :=
  if q < 0 then -1 else if a (q / 9) = -1 then (q / 72 * 8 + (q / 9 % 8 + tu) % 8) * 9 + q % 9 else if a (q / 9) < 0 then -1
  else if be = 0 then (a (q / 9) * 8 + q / 9 % 8) * 9 + q % 9 else if be ≤ q % 9 + 1 then (a (q / 9) * 8 + (q / 9 % 8 + 1) % 8) * 9 + 0 else (a (q / 9) * 8 + q / 9 % 8) * 9 + (q % 9 + 1)
abbrev MkI (n : Int) (mk : Int → Int) (ba to : Int) : Prop := (0 ≤ ba ∧ ba ≤ 2000000000) ∧ (0 ≤ to ∧ to ≤ 20000) ∧ ∀ j : Int, 0 ≤ j → j < n → 0 ≤ mk j ∧ mk j ≤ ba + to
def gtI (mk : Int → Int) (ba i : Int) : Int := if 0 < mk i - ba then mk i - ba else 0
theorem atI_in {n : Int} {g : Int → Int} {i : Int} (h : 0 ≤ i ∧ i < n) : atI n g i = g i := if_pos h
theorem setI_in {n : Int} {g : Int → Int} {i v : Int} (h : 0 ≤ i ∧ i < n) : setI n g i v = upZ g i v := if_pos h
/-! the n-th stand on a way, how many moves, which cells, how many -/
def itn (f : Int → Int) (q : Int) : Nat → Int
  | 0 => q
  | n + 1 => f (itn f q n)
def mvN (f : Int → Int) (q : Int) : Nat → Int
  | 0 => 0
  | n + 1 => mvN f q n + if itn f q (n + 1) / 72 = itn f q n / 72 then 0 else 1
def snN (f : Int → Int) (q : Int) : Nat → Int → Bool
  | 0, _ => false
  | n + 1, k => snN f q n k || decide (itn f q n / 72 = k)
def inN (f : Int → Int) (q : Int) : Nat → Int → Bool
  | 0, _ => false
  | n + 1, k => inN f q n k || decide (itn f q n = k)
def ceN (f : Int → Int) (q : Int) : Nat → Int
  | 0 => 0
  | n + 1 => ceN f q n + if 0 ≤ itn f q n ∧ snN f q n (itn f q n / 72) = false then 1 else 0
theorem mvN_rng (f : Int → Int) (q : Int) : ∀ n : Nat, 0 ≤ mvN f q n ∧ mvN f q n ≤ n
  | 0 => by simp [mvN]
  | n + 1 => by have := mvN_rng f q n; rw [mvN]; omega
theorem ceN_rng (f : Int → Int) (q : Int) : ∀ n : Nat, 0 ≤ ceN f q n ∧ ceN f q n ≤ n
  | 0 => by simp [ceN]
  | n + 1 => by have := ceN_rng f q n; rw [ceN]; by_cases h : 0 ≤ itn f q n ∧ snN f q n (itn f q n / 72) = false <;> simp only [h, if_true, if_false] <;> omega
abbrev WayI (a : Int → Int) (wt wb : Int) : Prop := (∀ j : Int, 0 ≤ j → j < 2048 → -2 ≤ a j ∧ a j < 256) ∧ (0 ≤ wt ∧ wt ≤ 7) ∧ (0 ≤ wb ∧ wb ≤ 9)
/-- the ways' next stand is f, on the stands below N; f stays there -/
abbrev NxtI (a : Int → Int) (wt wb : Int) (f : Int → Int) (N : Int) : Prop := WayI a wt wb ∧ N ≤ 18432 ∧ (∀ q : Int, 0 ≤ q → q < N → nxI a wt wb q = f q) ∧ ∀ q : Int, 0 ≤ q → q < N → -1 ≤ f q ∧ f q < N
theorem ldI_rng {W H : Int} {g : Int → Int} (hW : 3 ≤ W ∧ W ≤ 16) (hH : 3 ≤ H ∧ H ≤ 16) (far k : Int) : -9 ≤ ldI W H g far k ∧ ldI W H g far k < 256 := by
  unfold ldI
  have h1 := offI_rng hW hH (k / 8) (k % 8) 1
  have h2 := wh_rng hW hH
  by_cases h3 : trn W H g (k / 8) (k % 8) far = true
  · rw [if_pos h3]; omega
  · rw [if_neg h3]
    by_cases h4 : isWd W H g (offI W H (k / 8) (k % 8) 1) = true
    · rw [if_pos h4]; omega
    · rw [if_neg h4]; omega
theorem isWd_in {W H : Int} {g : Int → Int} {k : Int} (h : isWd W H g k = true) : 0 ≤ k ∧ k < W * H ∧ k < 256 := by
  have h1 := of_decide_eq_true h
  unfold kd at h1
  by_cases h2 : 0 ≤ k ∧ k < W * H ∧ k < 256
  · exact h2
  · rw [if_neg h2] at h1; omega
theorem ldI_rng2 {W H : Int} {g : Int → Int} (hW : 3 ≤ W ∧ W ≤ 16) (hH : 3 ≤ H ∧ H ≤ 16) (far k : Int) : -2 ≤ ldI W H g far k ∧ ldI W H g far k < 256 := by
  refine ⟨?_, (ldI_rng hW hH far k).2⟩
  unfold ldI
  by_cases h3 : trn W H g (k / 8) (k % 8) far = true
  · rw [if_pos h3]; omega
  · rw [if_neg h3]
    by_cases h4 : isWd W H g (offI W H (k / 8) (k % 8) 1) = true
    · rw [if_pos h4]; have := isWd_in h4; omega
    · rw [if_neg h4]; omega
theorem lay_step {W H : Int} {g a9 : Int → Int} {far k d : Int} (hW : 3 ≤ W ∧ W ≤ 16) (hH : 3 ≤ H ∧ H ≤ 16) (hd : 0 ≤ d) (hd2 : d < 8) (hk : 0 ≤ k) (hk2 : k < W * H) (hwh : 9 ≤ W * H ∧ W * H ≤ 256) (h3 : ∀ j : Int, 0 ≤ j → j < 2048 → -2 ≤ a9 j ∧ a9 j < 256) (h4 : ∀ j : Int, 0 ≤ j → j < 8 * k + d → a9 j = ldI W H g far j) :
    0 ≤ d + 1 ∧ d + 1 ≤ 8 ∧ (∀ j : Int, 0 ≤ j → j < 2048 → -2 ≤ upZ a9 (k * 8 + d) (ldI W H g far (k * 8 + d)) j ∧ upZ a9 (k * 8 + d) (ldI W H g far (k * 8 + d)) j < 256) ∧ ∀ j : Int, 0 ≤ j → j < 8 * k + (d + 1) → upZ a9 (k * 8 + d) (ldI W H g far (k * 8 + d)) j = ldI W H g far j := by
  refine ⟨by omega, by omega, fun j h1 h2 => ?_, fun j h1 h2 => ?_⟩
  · by_cases hj : j = k * 8 + d
    · rw [hj, upZ_s]; exact ldI_rng2 hW hH far _
    · rw [upZ_n hj]; exact h3 j h1 h2
  · by_cases hj : j = k * 8 + d
    · rw [hj, upZ_s]
    · rw [upZ_n hj]; exact h4 j h1 (by omega)
