/-! OUR PURE WORDS (22) -/
theorem mdF_hit {mk mk0 : Int → Int} {ba N bl s : Int} {f : Int → Int} {n : Nat} (h : MkE mk ba N f bl s n) (hsame : ∀ k : Int, inN f s n k = false → mk k = mk0 k) (hr : 0 ≤ itn f s n ∧ itn f s n < N) (hg : ¬ gtI mk ba (itn f s n) = 0) : itn f s n < 0 ∨ MdF mk0 ba bl (itn f s n) ≠ 0 ∨ inN f s n (itn f s n) = true := by
  cases hi : inN f s n (itn f s n) with
  | true => exact Or.inr (Or.inr rfl)
  | false =>
    refine Or.inr (Or.inl ?_)
    unfold MdF
    rw [if_pos (Or.inr (fun w => hg (by unfold gtI at w ⊢; rw [hsame _ hi]; exact w)))]
    decide
theorem mdF_no {mk mk0 : Int → Int} {ba N bl s : Int} {f : Int → Int} {n : Nat} (h : MkE mk ba N f bl s n) (hsame : ∀ k : Int, inN f s n k = false → mk k = mk0 k) (hr : 0 ≤ itn f s n ∧ itn f s n < N) (hb : ¬ itn f s n / 72 = bl) (hg : gtI mk ba (itn f s n) = 0) : MdF mk0 ba bl (itn f s n) = 0 ∧ inN f s n (itn f s n) = false := by
  have e := h _ hr.1 hr.2
  cases hi : inN f s n (itn f s n) with
  | true => have := e.1 hi; omega
  | false =>
    refine ⟨?_, rfl⟩
    unfold MdF
    rw [if_neg (fun u => u.elim hb (fun u2 => u2 (by unfold gtI at hg ⊢; rw [← hsame _ hi]; exact hg)))]
theorem mdF_same {mk mk0 f : Int → Int} {s q v : Int} {n : Nat} {k : Int} (hsame : ∀ k : Int, inN f s n k = false → mk k = mk0 k) (hq : q = itn f s n) (h : inN f s (n + 1) k = false) : upZ mk q v k = mk0 k := by
  rw [inN, Bool.or_eq_false_iff] at h
  have h2 := of_decide_eq_false h.2
  rw [upZ_n (fun w => h2 (by omega))]
  exact hsame k h.1
theorem lsF_s {al : Int → Bool} {n : Nat} {k K : Int} (h : lsF al n k = K) (hn : 0 < n) (ha : ¬ al k = true) : lsF al (n - 1) (k + 1) = K := by
  cases n with
  | zero => exact absurd hn (by omega)
  | succ m => rw [lsF, if_neg ha] at h; exact h
theorem lsF_e {al : Int → Bool} {n : Nat} {k k2 : Int} (hn : 0 < n) (hk : k2 = k) (ha : k2 = k → al k = true) : k2 = lsF al n k := by
  cases n with
  | zero => exact absurd hn (by omega)
  | succ m => rw [lsF, if_pos (ha hk)]; exact hk
