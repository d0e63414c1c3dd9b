/-! OUR PURE WORDS (37) -/
theorem std_inj {W H : Int} {wk wk2 : Int → Int} {q q2 : Int} (h : RepI W H wk q) (h2 : RepI W H wk2 q2) : 80 * (W * wk 1 + wk 0) + 10 * wk 2 + wk 3 = 80 * (W * wk2 1 + wk2 0) + 10 * wk2 2 + wk2 3 ↔ q = q2 := by
  obtain ⟨a1, _, _, a4, a5⟩ := h
  obtain ⟨b1, _, _, b4, b5⟩ := h2
  unfold stdX at a1 b1
  generalize W * wk 1 + wk 0 = t at *
  generalize W * wk2 1 + wk2 0 = t2 at *
  omega
theorem std_rng {W H : Int} {wk : Int → Int} {q : Int} (hW : 3 ≤ W ∧ W ≤ 16) (hH : 3 ≤ H ∧ H ≤ 16) (h : RepI W H wk q) : 0 ≤ 80 * (W * wk 1 + wk 0) + 10 * wk 2 + wk 3 ∧ 80 * (W * wk 1 + wk 0) + 10 * wk 2 + wk 3 < 20480 := by
  have hc := rep_cell hW hH h
  obtain ⟨a1, _, _, a4, a5⟩ := h
  generalize W * wk 1 + wk 0 = t at *
  omega
