/-! OUR PURE WORDS (09): the greatest common divisor, sums, the line -/
def gcI (a b : Int) : Int := ((Nat.gcd a.natAbs b.natAbs : Nat) : Int)
theorem gcI_0 {a : Int} (ha : 0 ≤ a) : gcI a 0 = a := by
  unfold gcI
  rw [show (0 : Int).natAbs = 0 from rfl, Nat.gcd_zero_right]
  omega
theorem gcI_step {a b : Int} (ha : 0 ≤ a) (hb : 0 < b) : gcI b (a % b) = gcI a b := by
  unfold gcI
  have h1 : (a % b).natAbs = a.natAbs % b.natAbs := by
    obtain ⟨n, rfl⟩ := Int.eq_ofNat_of_zero_le ha
    obtain ⟨k, rfl⟩ := Int.eq_ofNat_of_zero_le (Int.le_of_lt hb)
    rfl
  rw [h1, Nat.gcd_comm b.natAbs, ← Nat.gcd_rec, Nat.gcd_comm]
theorem gcI_nn (a b : Int) : 0 ≤ gcI a b := by unfold gcI; omega
theorem gcI_le {a b : Int} (hb : 0 < b) : 1 ≤ gcI a b ∧ gcI a b ≤ b := by
  unfold gcI
  have h1 := Nat.gcd_le_right a.natAbs (show 0 < b.natAbs by omega)
  have h2 := Nat.gcd_pos_of_pos_right a.natAbs (show 0 < b.natAbs by omega)
  omega
/-- a product that halves -/
def hlv (n : Nat) : Int := if n ≤ 81 then 2 ^ (81 - n) else 0
theorem hlv_s (n : Nat) : hlv n / 2 ≤ hlv (n + 1) := by
  unfold hlv
  by_cases h : n + 1 ≤ 81
  · rw [if_pos h, if_pos (by omega), show 81 - n = (81 - (n + 1)) + 1 by omega, Int.pow_succ]
    omega
  · rw [if_neg h]
    by_cases h2 : n ≤ 81
    · rw [if_pos h2, show 81 - n = 0 by omega]; decide
    · rw [if_neg h2]; decide
theorem gcd_half {a b : Int} {n : Nat} (ha : 0 ≤ a) (hb : 0 < b) (hn : b ≤ a) (hp : a * b ≤ hlv n) : b * (a % b) ≤ hlv (n + 1) := by
  have h1 := Int.emod_lt_of_pos a hb
  have h2 := Int.emod_nonneg a (show b ≠ 0 by omega)
  have h3 := Int.mul_ediv_add_emod a b
  have h4 : 1 ≤ a / b := by
    have := Int.ediv_le_ediv hb hn
    rw [Int.ediv_self (by omega)] at this
    exact this
  have h5 := Int.mul_le_mul_of_nonneg_left h4 (show 0 ≤ b by omega)
  rw [Int.mul_one] at h5
  have h6 : 2 * (a % b) ≤ a := by omega
  have h7 := Int.mul_le_mul_of_nonneg_left h6 (show 0 ≤ b by omega)
  have h8 : b * (2 * (a % b)) = 2 * (b * (a % b)) := by rw [← Int.mul_assoc, Int.mul_comm b 2, Int.mul_assoc]
  have h9 := Int.mul_comm a b
  have h10 := hlv_s n
  omega
def smI (h : Int → Int) : Nat → Int
  | 0 => 0
  | n + 1 => smI h n + h (n : Int)
theorem smI_rng {h : Int → Int} {c : Int} : ∀ {n : Nat}, (∀ j : Int, 0 ≤ j → j < (n : Int) → 0 ≤ h j ∧ h j ≤ c) → 0 ≤ smI h n ∧ smI h n ≤ c * (n : Int)
  | 0, _ => by simp [smI]
  | n + 1, hh => by
    have h1 := smI_rng (n := n) (fun j a b => hh j a (by omega))
    have h2 := hh (n : Int) (by omega) (by omega)
    rw [smI]
    have h3 : c * ((n + 1 : Nat) : Int) = c * (n : Int) + c := by rw [show ((n + 1 : Nat) : Int) = (n : Int) + 1 by omega, Int.mul_add, Int.mul_one]
    omega
theorem smI_cong {h k : Int → Int} : ∀ {n : Nat}, (∀ j : Int, 0 ≤ j → j < (n : Int) → h j = k j) → smI h n = smI k n
  | 0, _ => rfl
  | n + 1, hh => by rw [smI, smI, smI_cong (n := n) (fun j a b => hh j a (by omega)), hh (n : Int) (by omega) (by omega)]
theorem mul_b {a b A B : Int} (ha : 0 ≤ a ∧ a ≤ A) (hb : 0 ≤ b ∧ b ≤ B) : 0 ≤ a * b ∧ a * b ≤ A * B := ⟨Int.mul_nonneg ha.1 hb.1, Int.mul_le_mul ha.2 hb.2 hb.1 (by omega)⟩
def kX (kt : Int → Int) (n : Nat) : Int := smI kt n
def kXX (kt : Int → Int) (n : Nat) : Int := smI (fun j => kt j * kt j) n
def kXY (kt ks : Int → Int) (n : Nat) : Int := smI (fun j => kt j * ks j) n
/-- the slope's lower number, its upper; what is told of t turns, upper -/
def kLo (kt : Int → Int) (n : Nat) : Int := (n : Int) * kXX kt n - kX kt n * kX kt n
def kSl (kt ks : Int → Int) (n : Nat) : Int := (n : Int) * kXY kt ks n - kX kt n * kX ks n
def kUp (kt ks : Int → Int) (n : Nat) (t : Int) (b : Bool) : Int := if b = true then kX ks n * kXX kt n - kX kt n * kXY kt ks n + kSl kt ks n * t else kSl kt ks n
abbrev KeyI (kt ks : Int → Int) (n : Nat) : Prop := n ≤ 20 ∧ ∀ j : Int, 0 ≤ j → j < (n : Int) → (1 ≤ kt j ∧ kt j ≤ 9) ∧ (0 ≤ ks j ∧ ks j ≤ 999)
theorem key_rng {kt ks : Int → Int} {n m : Nat} (h : KeyI kt ks n) (hm : m ≤ n) : (0 ≤ kX kt m ∧ kX kt m ≤ 180) ∧ (0 ≤ kX ks m ∧ kX ks m ≤ 19980) ∧ (0 ≤ kXX kt m ∧ kXX kt m ≤ 1620) ∧ (0 ≤ kXY kt ks m ∧ kXY kt ks m ≤ 179820) := by
  have hn : (m : Int) ≤ 20 := by have := h.1; omega
  have h1 := smI_rng (h := kt) (c := 9) (n := m) (fun j a b => by have := h.2 j a (by omega); omega)
  have h2 := smI_rng (h := ks) (c := 999) (n := m) (fun j a b => by have := h.2 j a (by omega); omega)
  have h3 := smI_rng (h := fun j => kt j * kt j) (c := 81) (n := m) (fun j a b => by have := h.2 j a (by omega); exact mul_b (A := 9) (B := 9) (by omega) (by omega))
  have h4 := smI_rng (h := fun j => kt j * ks j) (c := 8991) (n := m) (fun j a b => by have := h.2 j a (by omega); exact mul_b (A := 9) (B := 999) (by omega) (by omega))
  unfold kX kXX kXY
  omega
theorem kLo_rng {kt ks : Int → Int} {n : Nat} (h : KeyI kt ks n) : -40000 ≤ kLo kt n ∧ kLo kt n ≤ 40000 := by
  have hr := key_rng h (Nat.le_refl n)
  have h0 := h.1
  have h1 := mul_b (a := (n : Int)) (A := 20) ⟨by omega, by omega⟩ hr.2.2.1
  have h2 := mul_b hr.1 hr.1
  unfold kLo
  omega
theorem kSl_rng {kt ks : Int → Int} {n : Nat} (h : KeyI kt ks n) : -4000000 ≤ kSl kt ks n ∧ kSl kt ks n ≤ 4000000 := by
  have hr := key_rng h (Nat.le_refl n)
  have h0 := h.1
  have h1 := mul_b (a := (n : Int)) (A := 20) ⟨by omega, by omega⟩ hr.2.2.2
  have h2 := mul_b hr.1 hr.2.1
  unfold kSl
  omega
theorem kUp_rng {kt ks : Int → Int} {n : Nat} (h : KeyI kt ks n) {t : Int} (ht : 0 ≤ t ∧ t ≤ 99) (b : Bool) : -1000000000 ≤ kUp kt ks n t b ∧ kUp kt ks n t b ≤ 1000000000 := by
  have hr := key_rng h (Nat.le_refl n)
  have hs := kSl_rng h
  have h1 := mul_b hr.2.1 hr.2.2.1
  have h2 := mul_b hr.1 hr.2.2.2
  have h3 := mul_b (a := kSl kt ks n + 4000000) (A := 8000000) ⟨by omega, by omega⟩ ht
  have h4 : (kSl kt ks n + 4000000) * t = kSl kt ks n * t + 4000000 * t := Int.add_mul _ _ _
  unfold kUp
  cases b with
  | true => rw [if_pos rfl]; omega
  | false => rw [if_neg (by decide)]; omega
