/-! OUR PURE WORDS (26): ways laid; the round -/
abbrev WysI (W H : Int) (g a : Int → Int) (ln : Int) : Prop := (∀ j : Int, 0 ≤ j → j < 2048 → -2 ≤ a j ∧ a j < 256) ∧ (0 ≤ ln ∧ ln ≤ 3) ∧ (ln ≠ 0 → ∀ j : Int, 0 ≤ j → j < 8 * (W * H) → a j = ldI W H g ln j)
def rnN (f : Int → Int) (q : Int) : Nat := wlk f (fun _ => 0) q
def rndF (f : Int → Int) (q w : Int) : Int :=
  if itn f q (rnN f q) < 0 then (if w = 0 then (rnN f q : Int) else 0)
  else if w = 0 then (rnN f q : Int) - (lap f (itn f q (rnN f q)) : Int) else if w = 1 then (lap f (itn f q (rnN f q)) : Int) else if w = 2 then mvN f (itn f q (rnN f q)) (lap f (itn f q (rnN f q))) else ceN f (itn f q (rnN f q)) (lap f (itn f q (rnN f q)))
abbrev MkR (mk : Int → Int) (ba N : Int) (f : Int → Int) (s : Int) (n : Nat) : Prop := (∀ i : Nat, i < n → gtI mk ba (itn f s i) = (i : Int) + 1) ∧ ∀ k : Int, 0 ≤ k → k < N → inN f s n k = false → gtI mk ba k = 0
theorem mkR_0 {mk : Int → Int} {ba N s : Int} {f : Int → Int} (h : ∀ j : Int, 0 ≤ j → j < N → mk j ≤ ba) : MkR mk ba N f s 0 := ⟨fun i hi => absurd hi (Nat.not_lt_zero _), fun k a b _ => by unfold gtI; rw [if_neg (by have := h k a b; omega)]⟩
theorem mkR_step {mk : Int → Int} {ba N s q : Int} {f : Int → Int} {n : Nat} (h : MkR mk ba N f s n) (hq : q = itn f s n) (hd : inN f s n q = false) : MkR (upZ mk q (ba + ((n : Int) + 1))) ba N f s (n + 1) := by
  refine ⟨fun i hi => ?_, fun k a b hk => ?_⟩
  · rw [gt_up (by omega)]
    by_cases e : i = n
    · rw [e, if_pos hq.symm]
    · rw [if_neg (fun w => by rw [(inN_iff f s n q).mpr ⟨i, by omega, w⟩] at hd; exact absurd hd (by decide))]
      exact h.1 i (by omega)
  · rw [gt_up (by omega)]
    rw [inN, Bool.or_eq_false_iff] at hk
    have h2 := of_decide_eq_false hk.2
    rw [if_neg (fun w => h2 (by omega))]
    exact h.2 k a b hk.1
theorem mkR_hit {mk : Int → Int} {ba N s : Int} {f : Int → Int} {n : Nat} (h : MkR mk ba N f s n) (hr : 0 ≤ itn f s n ∧ itn f s n < N) (hg : ¬ gtI mk ba (itn f s n) = 0) : inN f s n (itn f s n) = true := by
  cases hi : inN f s n (itn f s n) with
  | true => rfl
  | false => exact absurd (h.2 _ hr.1 hr.2 hi) hg
theorem mkR_no {mk : Int → Int} {ba N s : Int} {f : Int → Int} {n : Nat} (h : MkR mk ba N f s n) (hr : 0 ≤ itn f s n ∧ itn f s n < N) (hg : gtI mk ba (itn f s n) = 0) : inN f s n (itn f s n) = false := by
  cases hi : inN f s n (itn f s n) with
  | false => rfl
  | true =>
    obtain ⟨i, h1, h2⟩ := (inN_iff f s n _).mp hi
    have := h.1 i h1
    rw [h2] at this
    omega
theorem mkR_tail {mk : Int → Int} {ba N s : Int} {f : Int → Int} {n m : Nat} (hF : FokI f N) (hW : WkI f (fun _ => 0) s N n m) (h : MkR mk ba N f s n) (hi : inN f s n (itn f s n) = true) : gtI mk ba (itn f s n) = (n : Int) - (lap f (itn f s n) : Int) + 1 := by
  have hL := wk_lap hF hW hi
  obtain ⟨j, hj, ej⟩ := (inN_iff f s n _).mp hi
  have hg := h.1 j hj
  rw [ej] at hg
  have q1 : itn f (itn f s n) (n - j) = itn f s n := by
    have e := itn_add f s j (n - j)
    rw [show j + (n - j) = n by omega, ej] at e
    exact e.symm
  have hle : lap f (itn f s n) ≤ n - j := by
    by_cases w : lap f (itn f s n) ≤ n - j
    · exact w
    · exact absurd q1 (hL.2.2.2.1 (n - j) (by omega) (by omega))
  have hge : ¬ lap f (itn f s n) < n - j := fun w => by
    have q2 := hL.2.2.1
    generalize lap f (itn f s n) = pp at w q2 hL
    rw [← ej, ← itn_add] at q2
    have hd := (hW.2.2.2 (j + pp) (by omega)).2.2
    rw [q2] at hd
    rw [(inN_iff f s (j + pp) (itn f s j)).mpr ⟨j, by have := hL.1; omega, rfl⟩] at hd
    exact absurd hd (by decide)
  omega
theorem now_stand {W H k d b sp ro : Int} {g : Int → Int} (h : NowI W H k d b sp ro) (hs : ¬ stI W H g k sp = 2) : 0 ≤ (k * 8 + d) * 9 + b ∧ (k * 8 + d) * 9 + b < 72 * (W * H) := by
  have hw : isWd W H g k = true := by
    cases c : isWd W H g k with
    | true => rfl
    | false => exact absurd (by unfold stI; rw [if_neg (by rw [c]; decide)]) hs
  have hk := isWd_in hw
  obtain ⟨h1, h2, h3, h4, h5⟩ := h
  generalize W * H = t at hk h1 ⊢
  omega
theorem rnd_fall {f : Int → Int} {q : Int} (h : itn f q (rnN f q) < 0) : rndF f q 0 = (rnN f q : Int) ∧ rndF f q 1 = 0 ∧ rndF f q 2 = 0 ∧ rndF f q 3 = 0 := by simp [rndF, h]
theorem rnd_lap {f : Int → Int} {q : Int} (h : ¬ itn f q (rnN f q) < 0) : rndF f q 0 = (rnN f q : Int) - (lap f (itn f q (rnN f q)) : Int) ∧ rndF f q 1 = (lap f (itn f q (rnN f q)) : Int) ∧ rndF f q 2 = mvN f (itn f q (rnN f q)) (lap f (itn f q (rnN f q))) ∧ rndF f q 3 = ceN f (itn f q (rnN f q)) (lap f (itn f q (rnN f q))) := by simp [rndF, h]
