/-! OUR PURE WORDS (19): walks into what is marked; all starts, one by one -/
theorem inN_iff (f : Int → Int) (q : Int) : ∀ (n : Nat) (k : Int), inN f q n k = true ↔ ∃ i : Nat, i < n ∧ itn f q i = k
  | 0, k => ⟨fun h => by simp [inN] at h, fun ⟨i, h, _⟩ => absurd h (Nat.not_lt_zero _)⟩
  | n + 1, k => by
    rw [inN, Bool.or_eq_true, inN_iff f q n k, decide_eq_true_iff]
    constructor
    · rintro (⟨i, h1, h2⟩ | h)
      · exact ⟨i, by omega, h2⟩
      · exact ⟨n, by omega, h⟩
    · rintro ⟨i, h1, h2⟩
      by_cases hi : i = n
      · exact Or.inr (by rw [← hi]; exact h2)
      · exact Or.inl ⟨i, by omega, h2⟩
theorem snN_iff (f : Int → Int) (q : Int) : ∀ (n : Nat) (k : Int), snN f q n k = true ↔ ∃ i : Nat, i < n ∧ itn f q i / 72 = k
  | 0, k => ⟨fun h => by simp [snN] at h, fun ⟨i, h, _⟩ => absurd h (Nat.not_lt_zero _)⟩
  | n + 1, k => by
    rw [snN, Bool.or_eq_true, snN_iff f q n k, decide_eq_true_iff]
    constructor
    · rintro (⟨i, h1, h2⟩ | h)
      · exact ⟨i, by omega, h2⟩
      · exact ⟨n, by omega, h⟩
    · rintro ⟨i, h1, h2⟩
      by_cases hi : i = n
      · exact Or.inr (by rw [← hi]; exact h2)
      · exact Or.inl ⟨i, by omega, h2⟩
theorem itn_add (f : Int → Int) (q : Int) (j : Nat) : ∀ i : Nat, itn f q (j + i) = itn f (itn f q j) i
  | 0 => rfl
  | i + 1 => by rw [← Nat.add_assoc, itn, itn_add f q j i, itn]
def cnB (b : Int → Bool) : Nat → Int
  | 0 => 0
  | n + 1 => cnB b n + if b (n : Int) = true then 1 else 0
theorem cnB_le (b : Int → Bool) : ∀ n : Nat, 0 ≤ cnB b n ∧ cnB b n ≤ (n : Int)
  | 0 => ⟨Int.le_refl _, Int.le_refl _⟩
  | n + 1 => by
    have ih := cnB_le b n
    rw [cnB]
    by_cases h : b (n : Int) = true
    · rw [if_pos h]; omega
    · rw [if_neg h]; omega
theorem cnB_cong {b b2 : Int → Bool} : ∀ n : Nat, (∀ k : Int, 0 ≤ k → k < (n : Int) → b k = b2 k) → cnB b n = cnB b2 n
  | 0, _ => rfl
  | n + 1, h => by rw [cnB, cnB, cnB_cong n (fun k h1 h2 => h k h1 (by omega)), h (n : Int) (by omega) (by omega)]
theorem cnB_up {b : Int → Bool} {j : Int} : ∀ n : Nat, 0 ≤ j → j < (n : Int) → b j = false → cnB (fun k => b k || decide (j = k)) n = cnB b n + 1
  | 0, h1, h2, _ => absurd h2 (by omega)
  | n + 1, h1, h2, h3 => by
    rw [cnB, cnB]
    by_cases hj : j = (n : Int)
    · rw [cnB_cong (b2 := b) n (fun k k1 k2 => by rw [decide_eq_false (by omega), Bool.or_false]), ← hj, h3, decide_eq_true rfl]
      simp
    · rw [cnB_up n h1 (by omega) h3, decide_eq_false hj, Bool.or_false]
      omega
def wlkF (f M : Int → Int) (s : Int) : Nat → Nat → Nat
  | 0, n => n
  | m + 1, n => if itn f s n < 0 ∨ M (itn f s n) ≠ 0 ∨ inN f s n (itn f s n) = true then n else wlkF f M s m (n + 1)
/-- how many stands a walk from s has before it falls, or comes to a marked stand or to its own -/
def wlk (f M : Int → Int) (s : Int) : Nat := wlkF f M s 18433 0
abbrev FokI (f : Int → Int) (N : Int) : Prop := (0 ≤ N ∧ N ≤ 18432) ∧ ∀ q : Int, 0 ≤ q → q < N → -1 ≤ f q ∧ f q < N
abbrev WkI (f M : Int → Int) (s N : Int) (n m : Nat) : Prop := wlkF f M s m n = wlk f M s ∧ m + n = 18433 ∧ (-1 ≤ itn f s n ∧ itn f s n < N) ∧ ∀ i : Nat, i < n → (0 ≤ itn f s i ∧ itn f s i < N) ∧ M (itn f s i) = 0 ∧ inN f s i (itn f s i) = false
theorem wk_0 {f M : Int → Int} {s N : Int} (hs : 0 ≤ s ∧ s < N) : WkI f M s N 0 18433 := ⟨rfl, rfl, by rw [itn]; omega, fun i h => absurd h (Nat.not_lt_zero _)⟩
theorem wk_cnt {f : Int → Int} {s : Int} {N : Nat} : ∀ n : Nat, (∀ i : Nat, i < n → (0 ≤ itn f s i ∧ itn f s i < (N : Int)) ∧ inN f s i (itn f s i) = false) → cnB (inN f s n) N = (n : Int)
  | 0, _ => by
    have h : ∀ m : Nat, cnB (inN f s 0) m = 0 := fun m => by
      induction m with
      | zero => rfl
      | succ m ih => rw [cnB, ih]; simp [inN]
    exact h N
  | n + 1, h => by
    have ih := wk_cnt n (fun i hi => h i (by omega))
    have hn := h n (by omega)
    have hu := cnB_up (b := inN f s n) (j := itn f s n) N hn.1.1 hn.1.2 hn.2
    have e : inN f s (n + 1) = fun k => inN f s n k || decide (itn f s n = k) := rfl
    rw [e, hu, ih]
    omega
theorem wk_n {f M : Int → Int} {s N : Int} {n m : Nat} (hN : FokI f N) (h : WkI f M s N n m) : (n : Int) ≤ N := by
  have e : ((N.toNat : Nat) : Int) = N := Int.toNat_of_nonneg hN.1.1
  have hc := wk_cnt (f := f) (s := s) (N := N.toNat) n (fun i hi => ⟨⟨(h.2.2.2 i hi).1.1, by rw [e]; exact (h.2.2.2 i hi).1.2⟩, (h.2.2.2 i hi).2.2⟩)
  have := cnB_le (inN f s n) N.toNat
  omega
theorem wk_step {f M : Int → Int} {s N : Int} {n m : Nat} (hN : FokI f N) (h : WkI f M s N n m) (h1 : ¬ itn f s n < 0) (h2 : M (itn f s n) = 0) (h3 : inN f s n (itn f s n) = false) : WkI f M s N (n + 1) (m - 1) ∧ n < 18432 := by
  obtain ⟨a, b, d, g⟩ := h
  have hn := wk_n hN ⟨a, b, d, g⟩
  have hg : ∀ i : Nat, i < n + 1 → (0 ≤ itn f s i ∧ itn f s i < N) ∧ M (itn f s i) = 0 ∧ inN f s i (itn f s i) = false := fun i hi => by
    by_cases e : i = n
    · rw [e]; exact ⟨⟨by omega, d.2⟩, h2, h3⟩
    · exact g i (by omega)
  have e : ((N.toNat : Nat) : Int) = N := Int.toNat_of_nonneg hN.1.1
  have hc := wk_cnt (f := f) (s := s) (N := N.toNat) (n + 1) (fun i hi => ⟨⟨(hg i hi).1.1, by rw [e]; exact (hg i hi).1.2⟩, (hg i hi).2.2⟩)
  have hcl := cnB_le (inN f s (n + 1)) N.toNat
  have hNN := hN.1.2
  refine ⟨⟨?_, by omega, ?_, hg⟩, by omega⟩
  · cases m with
    | zero => exact absurd b (by omega)
    | succ k =>
      rw [wlkF, if_neg (by rw [h3]; simp [h2]; omega)] at a
      exact a
  · rw [itn]
    exact hN.2 _ (by omega) d.2
theorem wk_end {f M : Int → Int} {s N : Int} {n m : Nat} (hN : FokI f N) (h : WkI f M s N n m) (h1 : itn f s n < 0 ∨ M (itn f s n) ≠ 0 ∨ inN f s n (itn f s n) = true) : n = wlk f M s := by
  have hn := wk_n hN h
  have hNN := hN.1.2
  obtain ⟨a, b, d, g⟩ := h
  cases m with
  | zero => exact absurd b (by omega)
  | succ k =>
    rw [wlkF, if_pos h1] at a
    exact a
theorem wk_full {f M : Int → Int} {s N : Int} {n m : Nat} (hN : FokI f N) (h : WkI f M s N n m) (hn : 18432 ≤ n) : itn f s n < 0 ∨ M (itn f s n) ≠ 0 ∨ inN f s n (itn f s n) = true := by
  by_cases h1 : itn f s n < 0
  · exact Or.inl h1
  · by_cases h2 : M (itn f s n) = 0
    · cases h3 : inN f s n (itn f s n) with
      | true => exact Or.inr (Or.inr rfl)
      | false => have := (wk_step hN h h1 h2 h3).2; omega
    · exact Or.inr (Or.inl h2)
/-- how long it takes till q comes again -/
def lpF (f : Int → Int) (q : Int) : Nat → Nat → Nat
  | 0, p => p
  | m + 1, p => if itn f q p = q then p else lpF f q m (p + 1)
def lap (f : Int → Int) (q : Int) : Nat := lpF f q 18432 1
theorem lp_go {f : Int → Int} {q : Int} {b : Nat} (hb : itn f q b = q) : ∀ m p : Nat, p ≤ b → b < p + m → (∀ i : Nat, p ≤ i → i < b → itn f q i ≠ q) → lpF f q m p = b
  | 0, p, h1, h2, _ => absurd h2 (by omega)
  | m + 1, p, h1, h2, h3 => by
    rw [lpF]
    by_cases e : p = b
    · rw [if_pos (by rw [e]; exact hb)]; exact e
    · rw [if_neg (h3 p (Nat.le_refl _) (by omega))]
      exact lp_go hb m (p + 1) (by omega) (by omega) (fun i a c => h3 i (by omega) c)
theorem lap_eq {f : Int → Int} {q N : Int} {p : Nat} (h : LapI f q N p) : lap f q = p := lp_go h.2.2.1 18432 1 h.1 (by have := h.2.1; omega) (fun i a c => h.2.2.2.1 i (by omega) c)
/-- a walk that came to a stand of its own: there it goes round -/
theorem wk_lap {f M : Int → Int} {s N : Int} {n m : Nat} (hN : FokI f N) (h : WkI f M s N n m) (hr : inN f s n (itn f s n) = true) : LapI f (itn f s n) N (lap f (itn f s n)) := by
  have hn := wk_n hN h
  have hNN := hN.1.2
  obtain ⟨a, b, d, g⟩ := h
  obtain ⟨j, hj, e⟩ := (inN_iff f s n _).mp hr
  have hL : LapI f (itn f s n) N (n - j) := by
    refine ⟨by omega, by omega, ?_, fun i h1 h2 h3 => ?_, fun i h1 => ?_⟩
    · rw [← e, ← itn_add, show j + (n - j) = n by omega]; exact e.symm
    · rw [← e, ← itn_add] at h3
      have q := (g (j + i) (by omega)).2.2
      rw [h3] at q
      have q2 := (inN_iff f s (j + i) (itn f s j)).mpr ⟨j, by omega, rfl⟩
      rw [q] at q2
      exact absurd q2 (by decide)
    · rw [← e, ← itn_add]
      by_cases q : j + i = n
      · rw [q, ← e]; exact (g j hj).1
      · exact (g (j + i) (by omega)).1
  rw [lap_eq hL]
  exact hL
def fateF (f M : Int → Int) (s : Int) : Int := if itn f s (wlk f M s) < 0 then 1 else if M (itn f s (wlk f M s)) ≠ 0 then M (itn f s (wlk f M s)) else if mvN f (itn f s (wlk f M s)) (lap f (itn f s (wlk f M s))) = 0 then 2 else 3
def isRd (f M : Int → Int) (s : Int) : Bool := decide (0 ≤ itn f s (wlk f M s) ∧ M (itn f s (wlk f M s)) = 0)
/-- marks of stands, falls, trapped, rounds, the longest, the cells of all rounds -/
abbrev SV : Type := (Int → Int) × Int × Int × Int × Int × (Int → Bool)
def svS (f : Int → Int) (S : SV) (s : Int) : SV := match S with
  | (M, fa, tr, ro, lo, al) =>
    (fun k => if inN f s (wlk f M s) k = true then fateF f M s else M k, fa + (if fateF f M s = 1 then 1 else 0), tr + (if fateF f M s = 2 then 1 else 0),
      if isRd f M s = true then ro + 1 else ro,
      if isRd f M s = true then (if lo < (lap f (itn f s (wlk f M s)) : Int) then (lap f (itn f s (wlk f M s)) : Int) else lo) else lo,
      if isRd f M s = true then (fun c => al c && snN f (itn f s (wlk f M s)) (lap f (itn f s (wlk f M s))) c) else al)
def svN (f : Int → Int) (wd : Int → Bool) : Nat → SV
  | 0 => (fun _ => 0, 0, 0, 0, 0, fun _ => true)
  | k + 1 => if wd ((k : Int) / 8) = true then svS f (svN f wd k) (((k : Int) / 8 * 8 + (k : Int) % 8) * 9 + 0) else svN f wd k
def stN (wd : Int → Bool) : Nat → Int
  | 0 => 0
  | k + 1 => stN wd k + if wd ((k : Int) / 8) = true then 1 else 0
theorem stN_rng (wd : Int → Bool) : ∀ k : Nat, 0 ≤ stN wd k ∧ stN wd k ≤ (k : Int)
  | 0 => ⟨Int.le_refl _, Int.le_refl _⟩
  | k + 1 => by
    have := stN_rng wd k
    rw [stN]
    by_cases h : wd ((k : Int) / 8) = true
    · rw [if_pos h]; omega
    · rw [if_neg h]; omega
abbrev InRI (ir : Int → Int) (ro : Int) (al : Int → Bool) : Prop := ∀ c : Int, 0 ≤ c → c < 256 → (0 ≤ ir c ∧ ir c ≤ ro) ∧ (ir c = ro ↔ al c = true)
abbrev ArI (ir9 ir : Int → Int) (ro : Int) (f : Int → Int) (q : Int) (i : Nat) : Prop := ∀ c : Int, 0 ≤ c → c < 256 → ir9 c = if snN f q i c = true ∧ ir c = ro then ro + 1 else ir c
theorem ar_0 {ir f : Int → Int} {ro q : Int} : ArI ir ir ro f q 0 := fun c _ _ => by rw [if_neg (fun h => by simp [snN] at h)]
theorem ar_set {ir9 ir f : Int → Int} {ro q k : Int} {i : Nat} (h : ArI ir9 ir ro f q i) (hk : k = itn f q i / 72) (hk2 : 0 ≤ k ∧ k < 256) (he : ir9 k = ro) : ArI (upZ ir9 k (ro + 1)) ir ro f q (i + 1) := fun c c1 c2 => by
  have e := h k hk2.1 hk2.2
  have hs : ir k = ro := by
    by_cases q2 : snN f q i k = true ∧ ir k = ro
    · exact q2.2
    · rw [if_neg q2] at e; omega
  by_cases hc : c = k
  · rw [hc, upZ_s, if_pos ⟨(snN_iff f q (i + 1) k).mpr ⟨i, by omega, hk.symm⟩, hs⟩]
  · rw [upZ_n hc, h c c1 c2, snN, decide_eq_false (fun w => hc (w.symm.trans hk.symm)), Bool.or_false]
theorem ar_no {ir9 ir f : Int → Int} {ro q k : Int} {i : Nat} (h : ArI ir9 ir ro f q i) (hk : k = itn f q i / 72) (hk2 : 0 ≤ k ∧ k < 256) (he : ¬ ir9 k = ro) : ArI ir9 ir ro f q (i + 1) := fun c c1 c2 => by
  have e := h k hk2.1 hk2.2
  by_cases hc : c = k
  · subst hc
    by_cases hs : ir c = ro
    · rw [if_pos ⟨(snN_iff f q (i + 1) c).mpr ⟨i, by omega, hk.symm⟩, hs⟩]
      by_cases q2 : snN f q i c = true ∧ ir c = ro
      · rw [if_pos q2] at e; exact e
      · rw [if_neg q2] at e; omega
    · rw [if_neg (fun w => hs w.2)] at e
      rw [if_neg (fun w => hs w.2)]; exact e
  · rw [h c c1 c2, snN, decide_eq_false (fun w => hc (w.symm.trans hk.symm)), Bool.or_false]
theorem ar_end {ir9 ir f : Int → Int} {ro q : Int} {p : Nat} {al : Int → Bool} (h : ArI ir9 ir ro f q p) (hr : InRI ir ro al) : InRI ir9 (ro + 1) (fun c => al c && snN f q p c) := fun c c1 c2 => by
  have e := h c c1 c2
  have r := hr c c1 c2
  by_cases q2 : snN f q p c = true ∧ ir c = ro
  · rw [if_pos q2] at e
    exact ⟨by omega, fun _ => by rw [Bool.and_eq_true]; exact ⟨r.2.mp q2.2, q2.1⟩, fun _ => e⟩
  · rw [if_neg q2] at e
    refine ⟨by omega, fun w => absurd w (by omega), fun w => ?_⟩
    rw [Bool.and_eq_true] at w
    exact absurd ⟨w.2, r.2.mpr w.1⟩ q2
/-! the marks of stands -/
theorem gt_up {mk : Int → Int} {ba j v k : Int} (hv : 0 < v) : gtI (upZ mk j (ba + v)) ba k = if k = j then v else gtI mk ba k := by
  by_cases h : k = j
  · rw [if_pos h, h]; unfold gtI; rw [upZ_s, if_pos (by omega)]; omega
  · rw [if_neg h]; unfold gtI; rw [upZ_n h]
abbrev MkS (mk : Int → Int) (ba N : Int) (M : Int → Int) : Prop := ∀ k : Int, 0 ≤ k → k < N → (0 ≤ M k ∧ M k ≤ 3) ∧ gtI mk ba k = if M k = 0 then 0 else M k + 1
abbrev MkW (mk : Int → Int) (ba N : Int) (M f : Int → Int) (s : Int) (n : Nat) : Prop := ∀ k : Int, 0 ≤ k → k < N → gtI mk ba k = if inN f s n k = true then 1 else if M k = 0 then 0 else M k + 1
abbrev MkF (mk : Int → Int) (ba N : Int) (M f : Int → Int) (s : Int) (n : Nat) (e : Int) (i : Nat) : Prop := ∀ k : Int, 0 ≤ k → k < N → gtI mk ba k = if inN f s i k = true then e else if inN f s n k = true then 1 else if M k = 0 then 0 else M k + 1
theorem mkW_0 {mk : Int → Int} {ba N s : Int} {M f : Int → Int} (h : MkS mk ba N M) : MkW mk ba N M f s 0 := fun k a b => by rw [if_neg (show ¬ inN f s 0 k = true by simp [inN])]; exact (h k a b).2
theorem mkW_step {mk : Int → Int} {ba N s q : Int} {M f : Int → Int} {n : Nat} (h : MkW mk ba N M f s n) (hq : q = itn f s n) : MkW (upZ mk q (ba + 1)) ba N M f s (n + 1) := fun k a b => by
  rw [gt_up (by omega)]
  by_cases e : k = q
  · rw [if_pos e, if_pos ((inN_iff f s (n + 1) k).mpr ⟨n, by omega, by omega⟩)]
  · rw [if_neg e, h k a b, inN, decide_eq_false (fun w => e (w.symm.trans hq.symm)), Bool.or_false]
theorem mkF_0 {mk : Int → Int} {ba N s e : Int} {M f : Int → Int} {n : Nat} (h : MkW mk ba N M f s n) : MkF mk ba N M f s n e 0 := fun k a b => by rw [if_neg (show ¬ inN f s 0 k = true by simp [inN])]; exact h k a b
theorem mkF_step {mk : Int → Int} {ba N s q e : Int} {M f : Int → Int} {n i : Nat} (h : MkF mk ba N M f s n e i) (he : 0 < e) (hq : q = itn f s i) : MkF (upZ mk q (ba + e)) ba N M f s n e (i + 1) := fun k a b => by
  rw [gt_up he]
  by_cases c : k = q
  · rw [if_pos c, if_pos ((inN_iff f s (i + 1) k).mpr ⟨i, by omega, by omega⟩)]
  · rw [if_neg c, h k a b, inN, decide_eq_false (fun w => c (w.symm.trans hq.symm)), Bool.or_false]
theorem mkF_end {mk : Int → Int} {ba N s e : Int} {M f : Int → Int} {n : Nat} (h : MkF mk ba N M f s n (e + 1) n) (he : 1 ≤ e ∧ e ≤ 3) (hM : ∀ k : Int, 0 ≤ k → k < N → 0 ≤ M k ∧ M k ≤ 3) : MkS mk ba N (fun k => if inN f s n k = true then e else M k) := fun k a b => by
  have := h k a b
  by_cases c : inN f s n k = true
  · simp only [c, if_true] at this ⊢
    rw [if_neg (by omega)]
    exact ⟨by omega, this⟩
  · rw [if_neg c, if_neg c] at this
    simp only [c, if_false]
    exact ⟨hM k a b, this⟩
theorem mkI_up {n : Int} {mk : Int → Int} {ba to j v : Int} (h : MkI n mk ba to) (hv : 0 ≤ v ∧ v ≤ to) : MkI n (upZ mk j (ba + v)) ba to := ⟨h.1, h.2.1, fun k a b => by
  by_cases e : k = j
  · rw [e, upZ_s]; have := h.1; omega
  · rw [upZ_n e]; exact h.2.2 k a b⟩
theorem mkS_0 {mk : Int → Int} {ba N : Int} (h : ∀ j : Int, 0 ≤ j → j < N → mk j ≤ ba) : MkS mk ba N (fun _ => 0) := fun k a b => ⟨by dsimp only; omega, by
  unfold gtI
  rw [if_neg (by have := h k a b; omega)]
  rfl⟩
