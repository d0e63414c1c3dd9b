/-! OUR PURE WORDS (17): items, step by step -/
abbrev TokI (tb : Int → Int) (tn p pl fi so va : Int) : Prop := fi = tkF tb tn p ∧ so = tkS tb tn p ∧ pl = tkE tb tn p ∧ (so = 1 ∨ so = 2 → va = tkV tb tn p)
theorem nuV_rng {tb : Int → Int} {tn : Int} : ∀ (m : Nat) (p v : Int), 0 ≤ v ∧ v ≤ 1000 → 0 ≤ nuV tb tn m p v ∧ nuV tb tn m p v ≤ 1000
  | 0, p, v, h => h
  | m + 1, p, v, h => by
    rw [nuV]
    by_cases q : p < tn ∧ isD (tb p) = true
    · rw [if_pos q]
      have := isD_rng q.2
      exact nuV_rng m (p + 1) _ (by omega)
    · rw [if_neg q]; exact h
theorem tk_rng {tb : Int → Int} {tn p : Int} (h : 0 ≤ p ∧ p ≤ tn) : (p ≤ tkF tb tn p ∧ tkF tb tn p ≤ tn) ∧ (tkF tb tn p ≤ tkE tb tn p ∧ tkE tb tn p ≤ tn) := by
  have h1 := skB_rng tb tn 300 p
  have h2 := skL_rng tb tn 300 (tkF tb tn p)
  have h3 := skD_rng tb tn 300 (tkF tb tn p)
  have h4 : tkF tb tn p = skB tb tn 300 p := rfl
  refine ⟨by omega, ?_⟩
  unfold tkE
  by_cases q1 : tn ≤ tkF tb tn p
  · rw [if_pos q1]; omega
  · rw [if_neg q1]
    by_cases q2 : isL (tb (tkF tb tn p)) = true
    · rw [if_pos q2]; omega
    · rw [if_neg q2]
      by_cases q3 : isD (tb (tkF tb tn p)) = true
      · rw [if_pos q3]; omega
      · rw [if_neg q3]; omega
theorem tk_lt {tb : Int → Int} {tn p : Int} (h : 0 ≤ p ∧ p ≤ tn) (hs : tkS tb tn p ≠ 0) : p < tkE tb tn p := by
  have h1 := tk_rng (tb := tb) h
  have q1 : ¬ tn ≤ tkF tb tn p := fun q => hs (by unfold tkS; rw [if_pos q])
  have hL : isL (tb (tkF tb tn p)) = true → tkF tb tn p + 1 ≤ skL tb tn 300 (tkF tb tn p) := fun q => by
    rw [skL, if_pos ⟨by omega, q⟩]
    exact (skL_rng tb tn 299 _).1
  have hD : isD (tb (tkF tb tn p)) = true → tkF tb tn p + 1 ≤ skD tb tn 300 (tkF tb tn p) := fun q => by
    rw [skD, if_pos ⟨by omega, q⟩]
    exact (skD_rng tb tn 299 _).1
  unfold tkE
  rw [if_neg q1]
  by_cases q2 : isL (tb (tkF tb tn p)) = true
  · rw [if_pos q2]; have := hL q2; omega
  · rw [if_neg q2]
    by_cases q3 : isD (tb (tkF tb tn p)) = true
    · rw [if_pos q3]; have := hD q3; omega
    · rw [if_neg q3]; omega
theorem tkS_rng (tb : Int → Int) (tn p : Int) : 0 ≤ tkS tb tn p ∧ tkS tb tn p ≤ 4 := by
  unfold tkS
  by_cases q1 : tn ≤ tkF tb tn p
  · rw [if_pos q1]; omega
  · rw [if_neg q1]
    by_cases q2 : isL (tb (tkF tb tn p)) = true
    · rw [if_pos q2]; omega
    · rw [if_neg q2]
      by_cases q3 : isD (tb (tkF tb tn p)) = true
      · rw [if_pos q3]
        by_cases q4 : 999 < nuV tb tn 300 (tkF tb tn p) 0 ∨ (tb (tkF tb tn p) = 48 ∧ 1 < skD tb tn 300 (tkF tb tn p) - tkF tb tn p)
        · rw [if_pos q4]; omega
        · rw [if_neg q4]; omega
      · rw [if_neg q3]; omega
theorem tkV_1 {tb : Int → Int} {tn p : Int} (h : tkS tb tn p = 1) : 0 ≤ tkV tb tn p ∧ tkV tb tn p < 6 := by
  unfold tkS at h
  by_cases q1 : tn ≤ tkF tb tn p
  · rw [if_pos q1] at h; omega
  · rw [if_neg q1] at h
    by_cases q2 : isL (tb (tkF tb tn p)) = true
    · rw [if_pos q2] at h
      unfold tkV
      rw [if_pos q2]
      have := wdx_rng tb (tkF tb tn p) (skL tb tn 300 (tkF tb tn p)) 6
      omega
    · rw [if_neg q2] at h
      by_cases q3 : isD (tb (tkF tb tn p)) = true
      · rw [if_pos q3] at h
        by_cases q4 : 999 < nuV tb tn 300 (tkF tb tn p) 0 ∨ (tb (tkF tb tn p) = 48 ∧ 1 < skD tb tn 300 (tkF tb tn p) - tkF tb tn p)
        · rw [if_pos q4] at h; omega
        · rw [if_neg q4] at h; omega
      · rw [if_neg q3] at h; omega
theorem tkV_2 {tb : Int → Int} {tn p : Int} (h : tkS tb tn p = 2) : 0 ≤ tkV tb tn p ∧ tkV tb tn p < 1000 := by
  unfold tkS at h
  by_cases q1 : tn ≤ tkF tb tn p
  · rw [if_pos q1] at h; omega
  · rw [if_neg q1] at h
    by_cases q2 : isL (tb (tkF tb tn p)) = true
    · rw [if_pos q2] at h; omega
    · rw [if_neg q2] at h
      by_cases q3 : isD (tb (tkF tb tn p)) = true
      · rw [if_pos q3] at h
        unfold tkV
        rw [if_neg q2]
        have := nuV_rng (tb := tb) (tn := tn) 300 (tkF tb tn p) 0 (by omega)
        by_cases q4 : 999 < nuV tb tn 300 (tkF tb tn p) 0 ∨ (tb (tkF tb tn p) = 48 ∧ 1 < skD tb tn 300 (tkF tb tn p) - tkF tb tn p)
        · rw [if_pos q4] at h; omega
        · omega
      · rw [if_neg q3] at h; omega
theorem nofW_rng (w : Int) : 2 ≤ nofW w ∧ nofW w ≤ 4 := by unfold nofW; omega
abbrev NusI (tb : Int → Int) (tn W H w : Int) (m : Nat) (i : Int) (nuA nu9 : Int → Int) (p9 : Int) (K : Int × (Int → Int) × Int) : Prop :=
  (0 ≤ i ∧ i ≤ nofW w) ∧ nofW w - i < (m : Int) ∧ nusF tb tn W H w m i nuA p9 = K ∧ ∀ j : Int, 0 ≤ j → j < i → nu9 j = nuA j ∧ (0 ≤ nuA j ∧ nuA j < 1000) ∧ insN W H nuA w j (nuA j) = true
theorem nus_step {tb : Int → Int} {tn W H w i p9 v : Int} {m : Nat} {nuA nu9 : Int → Int} {K : Int × (Int → Int) × Int} (h : NusI tb tn W H w m i nuA nu9 p9 K) (hi : i < nofW w) (hs : tkS tb tn p9 = 2) (hv : v = tkV tb tn p9) (hin : insN W H nu9 w i v = true) : NusI tb tn W H w (m - 1) (i + 1) (upZ nuA i v) (upZ nu9 i v) (tkE tb tn p9) K := by
  obtain ⟨h1, h2, h3, h4⟩ := h
  have hin2 : insN W H nuA w i v = true := by rw [← insN_cong h1.1 (fun j a b => (h4 j a b).1)]; exact hin
  refine ⟨by omega, by omega, ?_, fun j a b => ?_⟩
  · cases m with
    | zero => exact absurd h2 (by omega)
    | succ k =>
      rw [nusF, if_pos hi, if_pos ⟨hs, by rw [← hv]; exact hin2⟩] at h3
      rw [hv]
      exact h3
  · by_cases hj : j = i
    · subst hj
      have hc := insN_cong (W := W) (H := H) (nu := upZ nuA j v) (nv := nuA) (w := w) (i := j) (v := v) h1.1 (fun q a b => upZ_n (by omega))
      rw [upZ_s, upZ_s]
      exact ⟨rfl, by rw [hv]; exact tkV_2 hs, hc.trans hin2⟩
    · have h5 := h4 j a (by omega)
      have hc := insN_cong (W := W) (H := H) (nu := upZ nuA i v) (nv := nuA) (w := w) (i := j) (v := nuA j) a (fun q a b => upZ_n (by omega))
      rw [upZ_n hj, upZ_n hj]
      exact ⟨h5.1, h5.2.1, hc.trans h5.2.2⟩
theorem nus_fail {tb : Int → Int} {tn W H w i p9 : Int} {m : Nat} {nuA nu9 : Int → Int} {K : Int × (Int → Int) × Int} (h : NusI tb tn W H w m i nuA nu9 p9 K) (hi : i < nofW w) (hf : ¬ (tkS tb tn p9 = 2 ∧ insN W H nu9 w i (tkV tb tn p9) = true)) : K = (tkF tb tn p9, nuA, p9) := by
  obtain ⟨h1, h2, h3, h4⟩ := h
  rw [insN_cong h1.1 (fun j a b => (h4 j a b).1)] at hf
  cases m with
  | zero => exact absurd h2 (by omega)
  | succ k =>
    rw [nusF, if_pos hi, if_neg hf] at h3
    exact h3.symm
theorem nus_end {tb : Int → Int} {tn W H w i p9 : Int} {m : Nat} {nuA nu9 : Int → Int} {K : Int × (Int → Int) × Int} (h : NusI tb tn W H w m i nuA nu9 p9 K) (hi : ¬ i < nofW w) : K = (-1, nuA, p9) := by
  obtain ⟨h1, h2, h3, h4⟩ := h
  cases m with
  | zero => exact absurd h2 (by omega)
  | succ k =>
    rw [nusF, if_neg hi] at h3
    exact h3.symm
/-- at the numbers' end: the rectangle lies on the table -/
theorem nus_rc {tb : Int → Int} {tn W H w i p9 : Int} {m : Nat} {nuA nu9 : Int → Int} {K : Int × (Int → Int) × Int} (h : NusI tb tn W H w m i nuA nu9 p9 K) (hi : ¬ i < nofW w) : w = 1 ∨ w = 2 → (0 ≤ nu9 0 ∧ 1 ≤ nu9 2 ∧ nu9 0 + nu9 2 ≤ W) ∧ (0 ≤ nu9 1 ∧ 1 ≤ nu9 3 ∧ nu9 1 + nu9 3 ≤ H) := by
  intro hw
  obtain ⟨h1, h2, h3, h4⟩ := h
  have hn : nofW w = 4 := by unfold nofW; omega
  have a0 := h4 0 (by omega) (by omega)
  have a1 := h4 1 (by omega) (by omega)
  have a2 := h4 2 (by omega) (by omega)
  have a3 := h4 3 (by omega) (by omega)
  have b2 := a2.2.2
  have b3 := a3.2.2
  unfold insN at b2 b3
  rw [if_neg (by omega), if_neg (by omega), if_neg (by omega), if_neg (by omega), if_pos rfl, if_neg (by omega)] at b2
  rw [if_neg (by omega), if_neg (by omega), if_neg (by omega), if_neg (by omega), if_neg (by omega)] at b3
  have c2 := of_decide_eq_true b2
  have c3 := of_decide_eq_true b3
  rw [a0.1, a1.1, a2.1, a3.1]
  omega
theorem itm_no {tb : Int → Int} {tn : Int} {Z : DT} {it m p : Int} (h : ¬ (tkS tb tn p = 1 ∧ mayS it m (tkV tb tn p) = true)) : itmF tb tn Z it m p = (tkF tb tn p, Z, m, p) := by unfold itmF; rw [if_neg h]
theorem itm_fail {tb : Int → Int} {tn : Int} {Z : DT} {it m p : Int} (h : tkS tb tn p = 1 ∧ mayS it m (tkV tb tn p) = true) {f p9 : Int} {nu : Int → Int} (hK : nusF tb tn Z.1 Z.2.1 (tkV tb tn p) 5 0 (fun _ => 0) (tkE tb tn p) = (f, nu, p9)) (hf : 0 ≤ f) : itmF tb tn Z it m p = (f, Z, m, p) := by
  unfold itmF; rw [if_pos h, hK, if_pos hf]
theorem itm_semi {tb : Int → Int} {tn : Int} {Z : DT} {it m p : Int} (h : tkS tb tn p = 1 ∧ mayS it m (tkV tb tn p) = true) {p9 : Int} {nu : Int → Int} (hK : nusF tb tn Z.1 Z.2.1 (tkV tb tn p) 5 0 (fun _ => 0) (tkE tb tn p) = (-1, nu, p9)) (hf : ¬ tkS tb tn p9 = 3) : itmF tb tn Z it m p = (tkF tb tn p9, Z, m, p) := by
  unfold itmF; rw [if_pos h, hK, if_neg (by dsimp only; omega), if_neg hf]
theorem itm_ok {tb : Int → Int} {tn : Int} {Z : DT} {it m p : Int} (h : tkS tb tn p = 1 ∧ mayS it m (tkV tb tn p) = true) {p9 : Int} {nu : Int → Int} (hK : nusF tb tn Z.1 Z.2.1 (tkV tb tn p) 5 0 (fun _ => 0) (tkE tb tn p) = (-1, nu, p9)) (hf : tkS tb tn p9 = 3) : itmF tb tn Z it m p = (-1, telF Z nu (tkV tb tn p), mskO m (tkV tb tn p), tkE tb tn p9) := by
  unfold itmF; rw [if_pos h, hK, if_neg (by dsimp only; omega), if_pos hf]
