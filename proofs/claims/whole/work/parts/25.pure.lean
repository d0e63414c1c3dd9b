/-! OUR PURE WORDS (43): the model's tokens -/
def btF (tx : Int → Int) (tn k : Int) : Int := if k < tn then tx k else -1
theorem bt_rng {tx : Int → Int} {tn k : Int} (h : TxtI tx tn) (hk : 0 ≤ k) : -1 ≤ btF tx tn k ∧ btF tx tn k < 256 := by
  unfold btF
  by_cases w : k < tn
  · rw [if_pos w]; have := h.2 k hk w; omega
  · rw [if_neg w]; omega
theorem bt_in {tx : Int → Int} {tn k : Int} (h : 0 ≤ btF tx tn k) : k < tn ∧ btF tx tn k = tx k := by
  unfold btF at h ⊢
  by_cases w : k < tn
  · rw [if_pos w]; exact ⟨w, rfl⟩
  · rw [if_neg w] at h; omega
theorem bt_out {tx : Int → Int} {tn k : Int} (h : TxtI tx tn) (hk : 0 ≤ k) (hb : btF tx tn k < 0) : tn ≤ k := by
  by_cases w : k < tn
  · have := h.2 k hk w
    unfold btF at hb
    rw [if_pos w] at hb
    omega
  · omega
def adF (a c : Int) : Int := if c = 0 then a else 256 * a + c
def vW (tx : Int → Int) (a : Int) : Nat → Int
  | 0 => 0
  | n + 1 => adF (vW tx a n) (tx (a + (n : Int)))
abbrev LetI (tx : Int → Int) (a : Int) (n : Nat) : Prop := ∀ j : Nat, j < n → 97 ≤ tx (a + (j : Int)) ∧ tx (a + (j : Int)) ≤ 122
theorem vW_s {tx : Int → Int} {a : Int} {n : Nat} (h : LetI tx a (n + 1)) : vW tx a (n + 1) = 256 * vW tx a n + tx (a + (n : Int)) := by
  have := h n (by omega)
  rw [vW, adF, if_neg (by omega)]
theorem let_le {tx : Int → Int} {a : Int} {n m : Nat} (h : LetI tx a n) (hm : m ≤ n) : LetI tx a m := fun j hj => h j (by omega)
theorem vW_rng {tx : Int → Int} {a : Int} : ∀ n : Nat, n ≤ 6 → LetI tx a n → 0 ≤ vW tx a n ∧ vW tx a n < 256 ^ n
  | 0, _, _ => by simp [vW]
  | n + 1, hn, h => by
    have ih := vW_rng n (by omega) (let_le h (by omega))
    have hb := h n (by omega)
    rw [vW_s h, Int.pow_succ]
    omega
def wOf (v : Int) : Int := if v = 499850046565 then 0 else if v = 1752132709 then 1 else if v = 1651470187 then 2 else if v = 1650814060 then 3 else if v = 7630713 then 4 else if v = 495873782388 then 5 else -9
theorem isW_len {tb : Int → Int} {a e : Int} {j : Nat} (h : isW tb a e j = true) : jle j = e - a := by
  unfold isW at h
  rw [Bool.and_eq_true] at h
  exact of_decide_eq_true h.1
theorem isW_0 (tb : Int → Int) (a e : Int) : isW tb a e 0 = true ↔ (e - a = 5 ∧ tb (a + 0) = 116 ∧ tb (a + 1) = 97 ∧ tb (a + 2) = 98 ∧ tb (a + 3) = 108 ∧ tb (a + 4) = 101) := by
  show (decide ((5 : Int) = e - a) && (((((true && decide ((116 : Int) = tb (a + 0))) && decide ((97 : Int) = tb (a + 1))) && decide ((98 : Int) = tb (a + 2))) && decide ((108 : Int) = tb (a + 3))) && decide ((101 : Int) = tb (a + 4)))) = true ↔ _
  simp only [Bool.true_and, Bool.and_eq_true, decide_eq_true_iff]
  exact ⟨fun h => by omega, fun h => by omega⟩
theorem isW_1 (tb : Int → Int) (a e : Int) : isW tb a e 1 = true ↔ (e - a = 4 ∧ tb (a + 0) = 104 ∧ tb (a + 1) = 111 ∧ tb (a + 2) = 108 ∧ tb (a + 3) = 101) := by
  show (decide ((4 : Int) = e - a) && ((((true && decide ((104 : Int) = tb (a + 0))) && decide ((111 : Int) = tb (a + 1))) && decide ((108 : Int) = tb (a + 2))) && decide ((101 : Int) = tb (a + 3)))) = true ↔ _
  simp only [Bool.true_and, Bool.and_eq_true, decide_eq_true_iff]
  exact ⟨fun h => by omega, fun h => by omega⟩
theorem isW_2 (tb : Int → Int) (a e : Int) : isW tb a e 2 = true ↔ (e - a = 4 ∧ tb (a + 0) = 98 ∧ tb (a + 1) = 111 ∧ tb (a + 2) = 111 ∧ tb (a + 3) = 107) := by
  show (decide ((4 : Int) = e - a) && ((((true && decide ((98 : Int) = tb (a + 0))) && decide ((111 : Int) = tb (a + 1))) && decide ((111 : Int) = tb (a + 2))) && decide ((107 : Int) = tb (a + 3)))) = true ↔ _
  simp only [Bool.true_and, Bool.and_eq_true, decide_eq_true_iff]
  exact ⟨fun h => by omega, fun h => by omega⟩
theorem isW_3 (tb : Int → Int) (a e : Int) : isW tb a e 3 = true ↔ (e - a = 4 ∧ tb (a + 0) = 98 ∧ tb (a + 1) = 101 ∧ tb (a + 2) = 108 ∧ tb (a + 3) = 108) := by
  show (decide ((4 : Int) = e - a) && ((((true && decide ((98 : Int) = tb (a + 0))) && decide ((101 : Int) = tb (a + 1))) && decide ((108 : Int) = tb (a + 2))) && decide ((108 : Int) = tb (a + 3)))) = true ↔ _
  simp only [Bool.true_and, Bool.and_eq_true, decide_eq_true_iff]
  exact ⟨fun h => by omega, fun h => by omega⟩
theorem isW_4 (tb : Int → Int) (a e : Int) : isW tb a e 4 = true ↔ (e - a = 3 ∧ tb (a + 0) = 116 ∧ tb (a + 1) = 111 ∧ tb (a + 2) = 121) := by
  show (decide ((3 : Int) = e - a) && (((true && decide ((116 : Int) = tb (a + 0))) && decide ((111 : Int) = tb (a + 1))) && decide ((121 : Int) = tb (a + 2)))) = true ↔ _
  simp only [Bool.true_and, Bool.and_eq_true, decide_eq_true_iff]
  exact ⟨fun h => by omega, fun h => by omega⟩
theorem isW_5 (tb : Int → Int) (a e : Int) : isW tb a e 5 = true ↔ (e - a = 5 ∧ tb (a + 0) = 115 ∧ tb (a + 1) = 116 ∧ tb (a + 2) = 97 ∧ tb (a + 3) = 114 ∧ tb (a + 4) = 116) := by
  show (decide ((5 : Int) = e - a) && (((((true && decide ((115 : Int) = tb (a + 0))) && decide ((116 : Int) = tb (a + 1))) && decide ((97 : Int) = tb (a + 2))) && decide ((114 : Int) = tb (a + 3))) && decide ((116 : Int) = tb (a + 4)))) = true ↔ _
  simp only [Bool.true_and, Bool.and_eq_true, decide_eq_true_iff]
  exact ⟨fun h => by omega, fun h => by omega⟩
theorem wdx_v {tb : Int → Int} {a e v : Int} (h0 : isW tb a e 0 = true ↔ v = 499850046565) (h1 : isW tb a e 1 = true ↔ v = 1752132709) (h2 : isW tb a e 2 = true ↔ v = 1651470187) (h3 : isW tb a e 3 = true ↔ v = 1650814060) (h4 : isW tb a e 4 = true ↔ v = 7630713) (h5 : isW tb a e 5 = true ↔ v = 495873782388) : wdx tb a e 6 = wOf v := by
  have e6 : wdx tb a e 6 = if isW tb a e 5 = true then (5 : Int) else if isW tb a e 4 = true then 4 else if isW tb a e 3 = true then 3 else if isW tb a e 2 = true then 2 else if isW tb a e 1 = true then 1 else if isW tb a e 0 = true then 0 else -9 := rfl
  rw [e6]
  unfold wOf
  simp only [h0, h1, h2, h3, h4, h5]
  omega
theorem wd_v {tb : Int → Int} {a e : Int} {m : Nat} (he : e = a + (m : Int)) (h : LetI tb a m) : wdx tb a e 6 = wOf (vW tb a (if m < 6 then m else 6)) := by
  have hm : m = 0 ∨ m = 1 ∨ m = 2 ∨ m = 3 ∨ m = 4 ∨ m = 5 ∨ 6 ≤ m := by omega
  have b : ∀ j : Nat, j < m → 97 ≤ tb (a + (j : Int)) ∧ tb (a + (j : Int)) ≤ 122 := h
  rcases hm with c | c | c | c | c | c | c
  · subst c
    have ev : vW tb a (if 0 < 6 then 0 else 6) = 0 := rfl
    rw [ev]
    apply wdx_v
    · rw [isW_0]; omega
    · rw [isW_1]; omega
    · rw [isW_2]; omega
    · rw [isW_3]; omega
    · rw [isW_4]; omega
    · rw [isW_5]; omega
  · subst c
    have b0 : 97 ≤ tb (a + 0) ∧ tb (a + 0) ≤ 122 := b 0 (by omega)
    have ev : vW tb a (if 1 < 6 then 1 else 6) = tb (a + 0) := by
      show vW tb a (0 + 1) = _
      rw [vW_s h]; show 256 * 0 + tb (a + 0) = _; omega
    rw [ev]
    apply wdx_v
    · rw [isW_0]; omega
    · rw [isW_1]; omega
    · rw [isW_2]; omega
    · rw [isW_3]; omega
    · rw [isW_4]; omega
    · rw [isW_5]; omega
  · subst c
    have b0 : 97 ≤ tb (a + 0) ∧ tb (a + 0) ≤ 122 := b 0 (by omega)
    have b1 : 97 ≤ tb (a + 1) ∧ tb (a + 1) ≤ 122 := b 1 (by omega)
    have ev : vW tb a (if 2 < 6 then 2 else 6) = 256 * tb (a + 0) + tb (a + 1) := by
      show vW tb a (1 + 1) = _
      rw [vW_s h, vW_s (n := 0) (let_le h (by omega))]; show 256 * (256 * 0 + tb (a + 0)) + tb (a + 1) = _; omega
    rw [ev]
    apply wdx_v
    · rw [isW_0]; omega
    · rw [isW_1]; omega
    · rw [isW_2]; omega
    · rw [isW_3]; omega
    · rw [isW_4]; omega
    · rw [isW_5]; omega
  · subst c
    have b0 : 97 ≤ tb (a + 0) ∧ tb (a + 0) ≤ 122 := b 0 (by omega)
    have b1 : 97 ≤ tb (a + 1) ∧ tb (a + 1) ≤ 122 := b 1 (by omega)
    have b2 : 97 ≤ tb (a + 2) ∧ tb (a + 2) ≤ 122 := b 2 (by omega)
    have ev : vW tb a (if 3 < 6 then 3 else 6) = 256 * (256 * tb (a + 0) + tb (a + 1)) + tb (a + 2) := by
      show vW tb a (2 + 1) = _
      rw [vW_s h, vW_s (n := 1) (let_le h (by omega)), vW_s (n := 0) (let_le h (by omega))]; show 256 * (256 * (256 * 0 + tb (a + 0)) + tb (a + 1)) + tb (a + 2) = _; omega
    rw [ev]
    apply wdx_v
    · rw [isW_0]; omega
    · rw [isW_1]; omega
    · rw [isW_2]; omega
    · rw [isW_3]; omega
    · rw [isW_4]; omega
    · rw [isW_5]; omega
  · subst c
    have b0 : 97 ≤ tb (a + 0) ∧ tb (a + 0) ≤ 122 := b 0 (by omega)
    have b1 : 97 ≤ tb (a + 1) ∧ tb (a + 1) ≤ 122 := b 1 (by omega)
    have b2 : 97 ≤ tb (a + 2) ∧ tb (a + 2) ≤ 122 := b 2 (by omega)
    have b3 : 97 ≤ tb (a + 3) ∧ tb (a + 3) ≤ 122 := b 3 (by omega)
    have ev : vW tb a (if 4 < 6 then 4 else 6) = 256 * (256 * (256 * tb (a + 0) + tb (a + 1)) + tb (a + 2)) + tb (a + 3) := by
      show vW tb a (3 + 1) = _
      rw [vW_s h, vW_s (n := 2) (let_le h (by omega)), vW_s (n := 1) (let_le h (by omega)), vW_s (n := 0) (let_le h (by omega))]; show 256 * (256 * (256 * (256 * 0 + tb (a + 0)) + tb (a + 1)) + tb (a + 2)) + tb (a + 3) = _; omega
    rw [ev]
    apply wdx_v
    · rw [isW_0]; omega
    · rw [isW_1]; omega
    · rw [isW_2]; omega
    · rw [isW_3]; omega
    · rw [isW_4]; omega
    · rw [isW_5]; omega
  · subst c
    have b0 : 97 ≤ tb (a + 0) ∧ tb (a + 0) ≤ 122 := b 0 (by omega)
    have b1 : 97 ≤ tb (a + 1) ∧ tb (a + 1) ≤ 122 := b 1 (by omega)
    have b2 : 97 ≤ tb (a + 2) ∧ tb (a + 2) ≤ 122 := b 2 (by omega)
    have b3 : 97 ≤ tb (a + 3) ∧ tb (a + 3) ≤ 122 := b 3 (by omega)
    have b4 : 97 ≤ tb (a + 4) ∧ tb (a + 4) ≤ 122 := b 4 (by omega)
    have ev : vW tb a (if 5 < 6 then 5 else 6) = 256 * (256 * (256 * (256 * tb (a + 0) + tb (a + 1)) + tb (a + 2)) + tb (a + 3)) + tb (a + 4) := by
      show vW tb a (4 + 1) = _
      rw [vW_s h, vW_s (n := 3) (let_le h (by omega)), vW_s (n := 2) (let_le h (by omega)), vW_s (n := 1) (let_le h (by omega)), vW_s (n := 0) (let_le h (by omega))]; show 256 * (256 * (256 * (256 * (256 * 0 + tb (a + 0)) + tb (a + 1)) + tb (a + 2)) + tb (a + 3)) + tb (a + 4) = _; omega
    rw [ev]
    apply wdx_v
    · rw [isW_0]; omega
    · rw [isW_1]; omega
    · rw [isW_2]; omega
    · rw [isW_3]; omega
    · rw [isW_4]; omega
    · rw [isW_5]; omega
  · have h6 : LetI tb a 6 := let_le h c
    have h5 := vW_rng 4 (by omega) (let_le h6 (by omega))
    have ev : vW tb a (if m < 6 then m else 6) = 256 * (256 * vW tb a 4 + tb (a + 4)) + tb (a + 5) := by
      rw [if_neg (by omega)]
      show vW tb a (5 + 1) = _
      rw [vW_s h6, vW_s (n := 4) (let_le h6 (by omega))]
      rfl
    have v5 : 97 * 256 ^ 3 ≤ vW tb a 4 := by
      have b0 : 97 ≤ tb (a + 0) ∧ tb (a + 0) ≤ 122 := h6 0 (by omega)
      have w0 : vW tb a 1 = tb (a + 0) := by rw [vW_s (n := 0) (let_le h6 (by omega))]; show 256 * 0 + tb (a + 0) = _; omega
      have w1 := vW_s (tx := tb) (a := a) (n := 1) (let_le h6 (by omega))
      have w2 := vW_s (tx := tb) (a := a) (n := 2) (let_le h6 (by omega))
      have w3 := vW_s (tx := tb) (a := a) (n := 3) (let_le h6 (by omega))
      have c1 := h6 1 (by omega)
      have c2 := h6 2 (by omega)
      have c3 := h6 3 (by omega)
      simp only [Nat.reduceAdd] at w1 w2 w3
      omega
    have b4 : 97 ≤ tb (a + 4) ∧ tb (a + 4) ≤ 122 := h6 4 (by omega)
    have b5 : 97 ≤ tb (a + 5) ∧ tb (a + 5) ≤ 122 := h6 5 (by omega)
    rw [ev]
    generalize vW tb a 4 = V at *
    simp only [Int.reducePow, Int.reduceMul] at v5 h5
    apply wdx_v
    · rw [isW_0]; omega
    · rw [isW_1]; omega
    · rw [isW_2]; omega
    · rw [isW_3]; omega
    · rw [isW_4]; omega
    · rw [isW_5]; omega
theorem adF_1 : adF (adF (adF (adF (adF 0 116) 97) 98) 108) 101 = 499850046565 := by decide
theorem adF_2 : adF (adF (adF (adF (adF 0 104) 111) 108) 101) 0 = 1752132709 := by decide
theorem adF_3 : adF (adF (adF (adF (adF 0 98) 111) 111) 107) 0 = 1651470187 := by decide
theorem adF_4 : adF (adF (adF (adF (adF 0 98) 101) 108) 108) 0 = 1650814060 := by decide
theorem adF_5 : adF (adF (adF (adF (adF 0 116) 111) 121) 0) 0 = 7630713 := by decide
theorem adF_6 : adF (adF (adF (adF (adF 0 115) 116) 97) 114) 116 = 495873782388 := by decide
theorem wOf_rng (v : Int) : -9 ≤ wOf v ∧ wOf v ≤ 5 := by unfold wOf; omega
/-- numbers: the model's and the class's, that stays at 1000 -/
abbrev NuR (va v : Int) : Prop := (va = v ∧ 0 ≤ v ∧ v ≤ 999) ∨ (999 < va ∧ va < 10000 ∧ v = 1000)
/-- taking a number from lo to hi: the number, the fault, the place behind -/
def nuM (tb : Int → Int) (tn fl p lo hi : Int) : Int × Int × Int := if 0 ≤ fl then (0, fl, p) else if tkS tb tn p = 2 ∧ lo ≤ tkV tb tn p ∧ tkV tb tn p ≤ hi then (tkV tb tn p, fl, tkE tb tn p) else (0, tkF tb tn p, p)
theorem nuM_w {tb : Int → Int} {tn fl p lo hi : Int} (h : 0 ≤ fl) : nuM tb tn fl p lo hi = (0, fl, p) := by unfold nuM; rw [if_pos h]
theorem nuM_y {tb : Int → Int} {tn fl p lo hi : Int} (h : ¬ 0 ≤ fl) (h2 : tkS tb tn p = 2 ∧ lo ≤ tkV tb tn p ∧ tkV tb tn p ≤ hi) : nuM tb tn fl p lo hi = (tkV tb tn p, fl, tkE tb tn p) := by unfold nuM; rw [if_neg h, if_pos h2]
theorem nuM_n {tb : Int → Int} {tn fl p lo hi : Int} (h : ¬ 0 ≤ fl) (h2 : ¬ (tkS tb tn p = 2 ∧ lo ≤ tkV tb tn p ∧ tkV tb tn p ≤ hi)) : nuM tb tn fl p lo hi = (0, tkF tb tn p, p) := by unfold nuM; rw [if_neg h, if_neg h2]
theorem nuM_rng {tb : Int → Int} {tn fl p lo hi : Int} (hp : 0 ≤ p ∧ p ≤ tn) (hf : fl ≤ tn) : (0 ≤ (nuM tb tn fl p lo hi).2.2 ∧ (nuM tb tn fl p lo hi).2.2 ≤ tn) ∧ (nuM tb tn fl p lo hi).2.1 ≤ tn ∧ (0 ≤ (nuM tb tn fl p lo hi).1 ∧ (nuM tb tn fl p lo hi).1 < 1000) ∧ ((nuM tb tn fl p lo hi).2.1 < 0 → fl < 0 ∧ lo ≤ (nuM tb tn fl p lo hi).1 ∧ (nuM tb tn fl p lo hi).1 ≤ hi) ∧ (0 ≤ (nuM tb tn fl p lo hi).2.1 → (nuM tb tn fl p lo hi).1 = 0) := by
  have hr := tk_rng (tb := tb) hp
  by_cases h : 0 ≤ fl
  · rw [nuM_w h]; dsimp only; omega
  · by_cases h2 : tkS tb tn p = 2 ∧ lo ≤ tkV tb tn p ∧ tkV tb tn p ≤ hi
    · have := tkV_2 h2.1
      rw [nuM_y h h2]; dsimp only; omega
    · rw [nuM_n h h2]; dsimp only; omega
theorem tok_0 {tx : Int → Int} {tn nx n8 va : Int} (hF : n8 = tkF tx tn nx) (h : tn ≤ n8) : TokI tx tn nx n8 n8 0 va := by
  unfold TokI tkS tkE
  rw [← hF]
  exact ⟨rfl, by rw [if_pos h], by rw [if_pos h], fun w => absurd w (by omega)⟩
theorem tok_L {tx : Int → Int} {tn nx n8 e v t : Int} (hF : n8 = tkF tx tn nx) (h : n8 < tn) (hl : 97 ≤ tx n8 ∧ tx n8 ≤ 122) (he : e = skL tx tn 300 n8) (hv : v = wdx tx n8 e 6) (ht : t = if v = -9 then 4 else 1) : TokI tx tn nx e n8 t v := by
  have hL : isL (tx n8) = true := decide_eq_true hl
  unfold TokI tkS tkE tkV
  rw [← hF]
  refine ⟨rfl, ?_, ?_, fun _ => ?_⟩
  · rw [if_neg (by omega), if_pos hL, ← he, ← hv]; exact ht
  · rw [if_neg (by omega), if_pos hL]; exact he
  · rw [if_pos hL, ← he]; exact hv
theorem tok_D {tx : Int → Int} {tn nx n8 e v t : Int} (hF : n8 = tkF tx tn nx) (h : n8 < tn) (hd : 48 ≤ tx n8 ∧ tx n8 ≤ 57) (he : e = skD tx tn 300 n8) (hv : NuR v (nuV tx tn 300 n8 0)) (ht : t = if 999 < v ∨ (tx n8 = 48 ∧ 1 < e - n8) then 4 else 2) : TokI tx tn nx e n8 t v := by
  have hL : ¬ isL (tx n8) = true := fun w => by have w2 := isL_rng w; omega
  have hDg : isD (tx n8) = true := decide_eq_true hd
  unfold TokI tkS tkE tkV
  rw [← hF]
  refine ⟨rfl, ?_, ?_, fun w => ?_⟩
  · rw [if_neg (by omega), if_neg hL, if_pos hDg, ← he, ht]
    exact if_iff (by omega)
  · rw [if_neg (by omega), if_neg hL, if_pos hDg]; exact he
  · rw [if_neg hL]; omega
theorem tok_X {tx : Int → Int} {tn nx n8 va t : Int} (hF : n8 = tkF tx tn nx) (h : n8 < tn) (hl : ¬ (97 ≤ tx n8 ∧ tx n8 ≤ 122)) (hd : ¬ (48 ≤ tx n8 ∧ tx n8 ≤ 57)) (ht : t = if tx n8 = 59 then 3 else 4) : TokI tx tn nx (n8 + 1) n8 t va := by
  have hL : ¬ isL (tx n8) = true := fun w => hl (isL_rng w)
  have hDg : ¬ isD (tx n8) = true := fun w => hd (isD_rng w)
  unfold TokI tkS tkE
  rw [← hF]
  refine ⟨rfl, ?_, ?_, fun w => ?_⟩
  · rw [if_neg (by omega), if_neg hL, if_neg hDg]; exact ht
  · rw [if_neg (by omega), if_neg hL, if_neg hDg]
  · rw [ht] at w; omega
theorem vW_m {tx : Int → Int} {a : Int} {m : Nat} (h : LetI tx a m) : 0 ≤ vW tx a (if m < 6 then m else 6) ∧ vW tx a (if m < 6 then m else 6) < 281474976710656 := by
  by_cases q : m < 6
  · rw [if_pos q]
    have hr := vW_rng m (by omega) h
    rcases (show m = 0 ∨ m = 1 ∨ m = 2 ∨ m = 3 ∨ m = 4 ∨ m = 5 by omega) with w | w | w | w | w | w <;> subst w <;> (simp only [Int.reducePow] at hr; omega)
  · rw [if_neg q]
    have hr := vW_rng 6 (by omega) (let_le h (by omega))
    simp only [Int.reducePow] at hr
    omega
