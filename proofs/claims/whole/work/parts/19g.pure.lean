/-! OUR PURE WORDS (28): everywhere, the best turn, tracks, two that meet, safe noses -/
def lfN (f : Int → Int) (wd : Int → Bool) (q : Int) : Nat → Int
  | 0 => 0
  | k + 1 => lfN f wd q k + if 0 ≤ itn f q k ∧ wd (itn f q k / 72) = true ∧ snN f q k (itn f q k / 72) = false then 1 else 0
def evF (f : Int → Int) (wd : Int → Bool) (co q : Int) : Nat → Nat → Int
  | 0, _ => -9
  | m + 1, k => if itn f q k < 0 then -9 else if co - lfN f wd q (k + 1) ≤ 0 then (k : Int) else evF f wd co q m (k + 1)
theorem lfN_rng (f : Int → Int) (wd : Int → Bool) (q : Int) : ∀ k : Nat, 0 ≤ lfN f wd q k ∧ lfN f wd q k ≤ (k : Int)
  | 0 => ⟨Int.le_refl _, Int.le_refl _⟩
  | k + 1 => by have := lfN_rng f wd q k; rw [lfN]; by_cases h : 0 ≤ itn f q k ∧ wd (itn f q k / 72) = true ∧ snN f q k (itn f q k / 72) = false <;> simp only [h, if_true, if_false] <;> omega
abbrev SewI (mk : Int → Int) (ba : Int) (f : Int → Int) (wd : Int → Bool) (q : Int) (i : Nat) : Prop := ∀ k : Int, 0 ≤ k → k < 256 → (ba < mk k ↔ (wd k = true ∧ snN f q i k = true))
theorem sew_0 {mk f : Int → Int} {wd : Int → Bool} {ba q : Int} (h : ∀ j : Int, 0 ≤ j → j < 256 → mk j ≤ ba) : SewI mk ba f wd q 0 := fun k h1 h2 => ⟨fun h3 => absurd (h k h1 h2) (by omega), fun h3 => by simp [snN] at h3⟩
theorem sew_no {mk f : Int → Int} {wd : Int → Bool} {ba q c : Int} {i : Nat} (h : SewI mk ba f wd q i) (hc : c = itn f q i / 72) (hw : wd c = false) : SewI mk ba f wd q (i + 1) ∧ lfN f wd q (i + 1) = lfN f wd q i := by
  refine ⟨fun k h1 h2 => ?_, ?_⟩
  · rw [h k h1 h2, snN, Bool.or_eq_true, decide_eq_true_iff]
    exact ⟨fun w => ⟨w.1, Or.inl w.2⟩, fun w => ⟨w.1, w.2.elim id (fun w2 => by rw [← w2, ← hc, hw] at w; exact absurd w.1 (by decide))⟩⟩
  · rw [lfN, if_neg (fun w => by rw [← hc, hw] at w; exact absurd w.2.1 (by decide))]
    omega
theorem sew_step {mk mk2 f : Int → Int} {wd : Int → Bool} {ba to q r c : Int} {i : Nat} (h : SewI mk ba f wd q i) (hM : MkI 256 mk ba to) (hto : 1 ≤ to) (hc : c = itn f q i / 72) (hc2 : 0 ≤ c ∧ c < 256) (hi : 0 ≤ itn f q i) (hw : wd c = true) (hr : (mk c ≤ ba ∧ mk2 = upZ mk c (ba + 1) ∧ r = 1) ∨ (ba < mk c ∧ mk2 = mk ∧ r = 0)) :
    SewI mk2 ba f wd q (i + 1) ∧ lfN f wd q (i + 1) = lfN f wd q i + r ∧ MkI 256 mk2 ba to := by
  have hs := h c hc2.1 hc2.2
  rcases hr with ⟨h1, rfl, rfl⟩ | ⟨h1, rfl, rfl⟩
  · have hsf : snN f q i c = false := by
      cases hq : snN f q i c with
      | false => rfl
      | true => have := hs.mpr ⟨hw, hq⟩; omega
    refine ⟨fun k k1 k2 => ?_, ?_, hM.1, hM.2.1, fun j j1 j2 => ?_⟩
    · rw [snN, Bool.or_eq_true, decide_eq_true_iff]
      by_cases hk : k = c
      · rw [hk, upZ_s]
        exact ⟨fun _ => ⟨hw, Or.inr hc.symm⟩, fun _ => by omega⟩
      · rw [upZ_n hk, h k k1 k2]
        exact ⟨fun q => ⟨q.1, Or.inl q.2⟩, fun q => ⟨q.1, q.2.elim id (fun q2 => absurd (hc.trans q2).symm hk)⟩⟩
    · rw [lfN, if_pos ⟨hi, by rw [← hc]; exact hw, by rw [← hc]; exact hsf⟩]
    · by_cases hk : j = c
      · rw [hk, upZ_s]; have := hM.1; omega
      · rw [upZ_n hk]; exact hM.2.2 j j1 j2
  · have hst := (hs.mp h1).2
    refine ⟨fun k k1 k2 => ?_, ?_, hM⟩
    · rw [snN, Bool.or_eq_true, decide_eq_true_iff, h k k1 k2]
      exact ⟨fun q => ⟨q.1, Or.inl q.2⟩, fun q => ⟨q.1, q.2.elim id (fun q2 => by rw [← q2, ← hc]; exact hst)⟩⟩
    · rw [lfN, if_neg (fun q => by rw [← hc, hst] at q; exact absurd q.2.2 (by decide))]
theorem ev_out {f : Int → Int} {wd : Int → Bool} {co q K : Int} {m k : Nat} (h : evF f wd co q m k = K) (hs : m = 0 ∨ itn f q k < 0) : K = -9 := by
  cases m with
  | zero => rw [evF] at h; exact h.symm
  | succ m => rw [evF, if_pos (hs.resolve_left (by omega))] at h; exact h.symm
theorem ev_hit {f : Int → Int} {wd : Int → Bool} {co q K : Int} {m k : Nat} (h : evF f wd co q m k = K) (hm : 0 < m) (hs : ¬ itn f q k < 0) (hl : co - lfN f wd q (k + 1) ≤ 0) : K = (k : Int) := by
  cases m with
  | zero => exact absurd hm (by omega)
  | succ m => rw [evF, if_neg hs, if_pos hl] at h; exact h.symm
theorem ev_go {f : Int → Int} {wd : Int → Bool} {co q K : Int} {m k : Nat} (h : evF f wd co q m k = K) (hm : 0 < m) (hs : ¬ itn f q k < 0) (hl : ¬ co - lfN f wd q (k + 1) ≤ 0) : evF f wd co q (m - 1) (k + 1) = K := by
  cases m with
  | zero => exact absurd hm (by omega)
  | succ m => rw [evF, if_neg hs, if_neg hl] at h; exact h
/-- the best of the turns 1 .. n, and how much it covers -/
def bsN (F : Int → Int) : Nat → Int × Int
  | 0 => (0, -1)
  | t + 1 => if (bsN F t).2 < F ((t : Int) + 1) then ((t : Int) + 1, F ((t : Int) + 1)) else bsN F t
def ftN (f tr : Int → Int) (q : Int) : Nat → Bool
  | 0 => true
  | k + 1 => ftN f tr q k && decide (0 ≤ itn f q k ∧ itn f q k / 72 = tr (k : Int))
theorem ftN_f {f tr : Int → Int} {q : Int} {k : Nat} (h : ftN f tr q k = false) : ∀ j : Nat, ftN f tr q (k + j) = false
  | 0 => h
  | j + 1 => by rw [← Nat.add_assoc, ftN, ftN_f h j]; rfl
def ftF (f : Int → Int) (W H : Int) (g tr : Int → Int) (tk d : Int) : Bool := if tk < 2 then true else isWd W H g (tr 0) && ftN f tr ((tr 0 * 8 + d) * 9 + 0) tk.toNat
/-- of the toys before the n-th: how many fit, the first -/
def fiN (F : Int → Int → Int → Bool) : Nat → Int × Int
  | 0 => (0, -9)
  | k + 1 => if F ((k : Int) / 80 + 1) ((k : Int) / 8 % 10) ((k : Int) % 8) = true then ((fiN F k).1 + 1, if (fiN F k).2 = -9 then 100 * ((k : Int) / 80 + 1) + 10 * ((k : Int) / 8 % 10) + (k : Int) % 8 else (fiN F k).2) else fiN F k
theorem fiN_rng (F : Int → Int → Int → Bool) : ∀ k : Nat, k ≤ 560 → (0 ≤ (fiN F k).1 ∧ (fiN F k).1 ≤ (k : Int)) ∧ -9 ≤ (fiN F k).2 ∧ (fiN F k).2 < 800
  | 0, _ => ⟨⟨Int.le_refl _, Int.le_refl _⟩, by rw [fiN]; dsimp only; omega⟩
  | k + 1, h => by
    have := fiN_rng F k (by omega)
    rw [fiN]
    by_cases c : F ((k : Int) / 80 + 1) ((k : Int) / 8 % 10) ((k : Int) % 8) = true
    · rw [if_pos c]; dsimp only; omega
    · rw [if_neg c]; omega
def meF (f : Int → Int) : Nat → Int → Int → Int → Int
  | 0, _, _, _ => -9
  | m + 1, q, r, k => if q < 0 ∨ r < 0 then -9 else if q / 72 = r / 72 then k else meF f m (f q) (f r) (k + 1)
theorem me_out {f : Int → Int} {m : Nat} {q r k K : Int} (h : meF f m q r k = K) (hs : m = 0 ∨ q < 0 ∨ r < 0) : K = -9 := by
  cases m with
  | zero => rw [meF] at h; exact h.symm
  | succ m => rw [meF, if_pos (hs.resolve_left (by omega))] at h; exact h.symm
theorem me_hit {f : Int → Int} {m : Nat} {q r k K : Int} (h : meF f m q r k = K) (hm : 0 < m) (hs : ¬ (q < 0 ∨ r < 0)) (hc : q / 72 = r / 72) : K = k := by
  cases m with
  | zero => exact absurd hm (by omega)
  | succ m => rw [meF, if_neg hs, if_pos hc] at h; exact h.symm
theorem me_go {f : Int → Int} {m : Nat} {q r k K : Int} (h : meF f m q r k = K) (hm : 0 < m) (hs : ¬ (q < 0 ∨ r < 0)) (hc : ¬ q / 72 = r / 72) : meF f (m - 1) (f q) (f r) (k + 1) = K := by
  cases m with
  | zero => exact absurd hm (by omega)
  | succ m => rw [meF, if_neg hs, if_neg hc] at h; exact h
def saN (W H : Int) (g : Int → Int) (tu be : Int) : Nat → Int
  | 0 => 0
  | n + 1 => if (svT (stF W H g ((n : Int) + 1) tu be) W H g).2.1 = 0 then mskO (saN W H g tu be n) (n : Int) else saN W H g tu be n
theorem isSt_rng {W H x y d : Int} {g : Int → Int} (hW : 3 ≤ W ∧ W ≤ 16) (hH : 3 ≤ H ∧ H ≤ 16) (hg : ∀ j : Int, 0 ≤ j → j < 256 → 0 ≤ g j ∧ g j ≤ 2) (h : isSt W H g x y d = true) : -1 ≤ ((W * y + x) * 8 + d) * 9 + 0 ∧ ((W * y + x) * 8 + d) * 9 + 0 < 72 * (W * H) := by
  have h2 := of_decide_eq_true h
  unfold celF at h2
  by_cases c : inT W H x y = true
  · have h3 := inT_cell hW hH c
    generalize W * y + x = u at h3 ⊢
    generalize W * H = v at h3 ⊢
    omega
  · rw [if_neg c] at h2
    omega
