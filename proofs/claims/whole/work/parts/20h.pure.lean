/-! OUR PURE WORDS (36): the model's cells that it was on -/
abbrev RepI (W H : Int) (wk : Int → Int) (q : Int) : Prop := stdX W (wk 0) (wk 1) (wk 2) (wk 3) = q ∧ OnI W H (wk 0) (wk 1) (wk 2) (wk 3)
abbrev OcI (oc f : Int → Int) (q : Int) (k : Nat) : Prop := ∀ c : Int, 0 ≤ c → c < 256 → (oc c = 0 ∨ oc c = 1) ∧ (oc c = 1 ↔ snN f q k c = true)
theorem oc_0 {oc f : Int → Int} {q : Int} (h : ∀ j : Int, 0 ≤ j → j < 256 → oc j = 0) : OcI oc f q 0 := fun c a b => ⟨Or.inl (h c a b), fun w => absurd w (by rw [h c a b]; decide), fun w => by simp [snN] at w⟩
theorem oc_step {oc f : Int → Int} {q c r : Int} {k : Nat} (h : OcI oc f q k) (hc : c = itn f q k / 72) (hc2 : 0 ≤ c ∧ c < 256) (hi : 0 ≤ itn f q k) (hr : r = if oc c = 0 then 1 else 0) : OcI (upZ oc c 1) f q (k + 1) ∧ ceN f q (k + 1) = ceN f q k + r := by
  have hs := h c hc2.1 hc2.2
  refine ⟨fun j a b => ?_, ?_⟩
  · rw [snN, Bool.or_eq_true, decide_eq_true_iff]
    by_cases e : j = c
    · rw [e, upZ_s]; exact ⟨Or.inr rfl, fun _ => Or.inr hc.symm, fun _ => rfl⟩
    · rw [upZ_n e]
      refine ⟨(h j a b).1, fun w => Or.inl ((h j a b).2.mp w), fun w => w.elim (h j a b).2.mpr (fun w2 => absurd (hc.trans w2).symm e)⟩
  · rw [ceN]
    rcases hs.1 with w | w
    · have hf : snN f q k c = false := by
        cases u : snN f q k c with
        | false => rfl
        | true => have := hs.2.mpr u; omega
      rw [hr, if_pos w, if_pos ⟨hi, by rw [← hc]; exact hf⟩]
    · have ht := hs.2.mp w
      rw [hr, if_neg (show ¬ oc c = 0 by omega), if_neg (show ¬ (0 ≤ itn f q k ∧ snN f q k (itn f q k / 72) = false) from fun u => by rw [← hc, ht] at u; exact absurd u.2 (by decide))]
theorem rep_cell {W H : Int} {wk : Int → Int} {q : Int} (hW : 3 ≤ W ∧ W ≤ 16) (hH : 3 ≤ H ∧ H ≤ 16) (h : RepI W H wk q) : W * wk 1 + wk 0 = q / 72 ∧ (0 ≤ q / 72 ∧ q / 72 < 256) ∧ 0 ≤ q := by
  obtain ⟨h1, h2, h3, h4, h5⟩ := h
  have hc := cell_rng hW hH h2 h3
  have hwh := wh_rng hW hH
  unfold stdX at h1
  generalize W * wk 1 + wk 0 = t at *
  omega
theorem rep_step {W H : Int} {g : Int → Int} {no tu be q r : Int} {wk wk2 : Int → Int} (hW : 3 ≤ W ∧ W ≤ 16) (hH : 3 ≤ H ∧ H ≤ 16) (htu : 1 ≤ tu ∧ tu ≤ 7) (hbe : 0 ≤ be ∧ be ≤ 9) (h : RepI W H wk q) (hm : (r, wk2 0, wk2 1, wk2 2, wk2 3) = msF W H g no tu be (wk 0) (wk 1) (wk 2) (wk 3)) :
    (r = -1 ∧ stF W H g no tu be q = -1) ∨ ((r = 0 ∨ r = 1) ∧ RepI W H wk2 (stF W H g no tu be q) ∧ (r = if stF W H g no tu be q / 72 = q / 72 then 0 else 1)) := by
  rcases ms_st hW hH htu hbe h.2 hm with w | w
  · rw [h.1] at w; exact Or.inl w
  · rw [h.1] at w
    obtain ⟨w1, w2, w3, w4⟩ := w
    exact Or.inr ⟨w1, ⟨w3.symm, w2⟩, by rw [w3]; exact w4⟩
