/-! OUR PURE WORDS (24): NOW stays in its range; the ways of the toy as it is -/
theorem stp_now {W H : Int} {g : Int → Int} {no tu be bl k d b sp st mo tn ri la ro : Int} (hW : 3 ≤ W ∧ W ≤ 16) (hH : 3 ≤ H ∧ H ≤ 16) (htu : 1 ≤ tu ∧ tu ≤ 7) (hbe : 0 ≤ be ∧ be ≤ 9) (hsp : 0 < sp) (h : NowI W H k d b sp ro) {k2 d2 b2 sp2 st2 mo2 tn2 ri2 la2 ro2 : Int} (e : (k2, d2, b2, sp2, st2, mo2, tn2, ri2, la2, ro2) = stpN (W, H, g, no, tu, be, bl) (k, d, b, sp, st, mo, tn, ri, la, ro)) : NowI W H k2 d2 b2 sp2 ro2 ∧ ro2 ≤ ro + 1 ∧ st2 = st + 1 := by
  obtain ⟨h1, h2, h3, h4, h5⟩ := h
  have ho := offI_rng hW hH k d 1
  simp only [stpN] at e
  by_cases c1 : trn W H g k d no = true
  · rw [if_pos c1] at e
    simp only [Prod.mk.injEq] at e
    obtain ⟨e1, e2, e3, e4, e5, _, _, _, _, e6⟩ := e
    subst e1; subst e2; subst e3; subst e4; subst e5; subst e6
    exact ⟨⟨h1, by omega, h3, by omega, by omega⟩, by omega, rfl⟩
  · rw [if_neg c1] at e
    by_cases c2 : isWd W H g (offI W H k d 1) = true
    · rw [if_pos c2] at e
      simp only [Prod.mk.injEq] at e
      obtain ⟨e1, e2, e3, e4, e5, _, _, _, _, e6⟩ := e
      subst e1; subst e2; subst e3; subst e4; subst e5; subst e6
      exact ⟨⟨ho, by omega, by omega, by omega, by omega⟩, by omega, rfl⟩
    · rw [if_neg c2] at e
      simp only [Prod.mk.injEq] at e
      obtain ⟨e1, e2, e3, e4, e5, _, _, _, _, e6⟩ := e
      subst e1; subst e2; subst e3; subst e4; subst e5; subst e6
      exact ⟨⟨ho, h2, h3, by omega, by omega⟩, by omega, rfl⟩
theorem go_step {T : TT} {n : Nat} {N N2 : NT} {K : Int × NT} {x : Int} (h : (x + (goN T n N).1, (goN T n N).2) = K) (hn : 0 < n) (hs : stI T.1 T.2.1 T.2.2.1 N.1 N.2.2.2.1 = 0) (e : N2 = stpN T N) : (x + 1 + (goN T (n - 1) N2).1, (goN T (n - 1) N2).2) = K := by
  cases n with
  | zero => exact absurd hn (by omega)
  | succ m =>
    rw [goN, if_pos hs, ← e] at h
    rw [← h, Nat.add_sub_cancel]
    dsimp only
    rw [show x + ((goN T m N2).1 + 1) = x + 1 + (goN T m N2).1 by omega]
theorem go_end {T : TT} {n : Nat} {N : NT} {K : Int × NT} {x : Int} (h : (x + (goN T n N).1, (goN T n N).2) = K) (hs : n = 0 ∨ ¬ stI T.1 T.2.1 T.2.2.1 N.1 N.2.2.2.1 = 0) : K = (x, N) := by
  cases n with
  | zero => rw [goN] at h; rw [← h]; simp
  | succ m =>
    rw [goN, if_neg (hs.resolve_left (by omega))] at h
    rw [← h]; simp
theorem stI_sp {W H : Int} {g : Int → Int} {k sp : Int} (h : stI W H g k sp = 0) : sp ≠ 0 ∧ isWd W H g k = true := by
  unfold stI at h
  by_cases c : isWd W H g k = true
  · rw [if_pos c] at h
    by_cases c2 : sp = 0
    · rw [if_pos c2] at h; omega
    · exact ⟨c2, c⟩
  · rw [if_neg c] at h; omega
def stF (W H : Int) (g : Int → Int) (no tu be : Int) : Int → Int := nxI (ldI W H g no) tu be
theorem stF_1 (W H : Int) (g : Int → Int) (no tu be : Int) : stF W H g no tu be (-1) = -1 := by unfold stF nxI; rw [if_pos (by omega)]
theorem ldI_wood {W H : Int} {g : Int → Int} (hW : 3 ≤ W ∧ W ≤ 16) (hH : 3 ≤ H ∧ H ≤ 16) (far k : Int) : ldI W H g far k < 0 ∨ (0 ≤ ldI W H g far k ∧ ldI W H g far k < W * H) := by
  unfold ldI
  by_cases h3 : trn W H g (k / 8) (k % 8) far = true
  · rw [if_pos h3]; omega
  · rw [if_neg h3]
    by_cases h4 : isWd W H g (offI W H (k / 8) (k % 8) 1) = true
    · rw [if_pos h4]; have := isWd_in h4; omega
    · rw [if_neg h4]; omega
theorem stF_rng {W H : Int} {g : Int → Int} {no tu be q : Int} (hW : 3 ≤ W ∧ W ≤ 16) (hH : 3 ≤ H ∧ H ≤ 16) (htu : 1 ≤ tu ∧ tu ≤ 7) (hbe : 0 ≤ be ∧ be ≤ 9) (hq : 0 ≤ q ∧ q < 72 * (W * H)) : -1 ≤ stF W H g no tu be q ∧ stF W H g no tu be q < 72 * (W * H) := by
  have h := ldI_wood (g := g) hW hH no (q / 9)
  unfold stF nxI
  generalize ldI W H g no (q / 9) = t at h ⊢
  omega
theorem nxt_of {W H : Int} {g a : Int → Int} {no tu be : Int} (hW : 3 ≤ W ∧ W ≤ 16) (hH : 3 ≤ H ∧ H ≤ 16) (htu : 1 ≤ tu ∧ tu ≤ 7) (hbe : 0 ≤ be ∧ be ≤ 9) (h1 : ∀ j : Int, 0 ≤ j → j < 2048 → -2 ≤ a j ∧ a j < 256) (h2 : ∀ j : Int, 0 ≤ j → j < 8 * (W * H) → a j = ldI W H g no j) : NxtI a tu be (stF W H g no tu be) (72 * (W * H)) := by
  have hwh := wh_rng hW hH
  refine ⟨⟨h1, by omega, by omega⟩, by omega, fun q a1 a2 => ?_, fun q a1 a2 => stF_rng hW hH htu hbe ⟨a1, a2⟩⟩
  unfold stF nxI
  rw [h2 (q / 9) (by omega) (by omega)]
theorem stI_rng {W H : Int} {g : Int → Int} {k sp : Int} : 0 ≤ stI W H g k sp ∧ stI W H g k sp ≤ 2 := by unfold stI; by_cases c : isWd W H g k = true <;> simp only [c, if_true, if_false, Bool.false_eq_true] <;> omega
