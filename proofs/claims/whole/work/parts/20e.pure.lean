/-! OUR PURE WORDS (35): the model's steps are the stands' -/
def celX (W H u v : Int) : Int := if inT W H u v = true then W * v + u else -9
theorem celX_kd {W H : Int} {g : Int → Int} (hW : 3 ≤ W ∧ W ≤ 16) (hH : 3 ≤ H ∧ H ≤ 16) (u v : Int) : (inT W H u v = true ∧ kd W H g (celX W H u v) = mA W H g u v ∧ celX W H u v = W * v + u) ∨ (inT W H u v = false ∧ kd W H g (celX W H u v) = -9 ∧ mA W H g u v = -5 ∧ celX W H u v = -9) := by
  unfold celX mA
  have hwh := wh_rng hW hH
  cases h : inT W H u v with
  | true =>
    have hc := inT_cell hW hH h
    rw [if_pos rfl, if_pos rfl]
    refine Or.inl ⟨rfl, ?_, rfl⟩
    unfold kd
    rw [if_pos ⟨hc.1, hc.2, by omega⟩]
  | false =>
    rw [if_neg (by decide), if_neg (by decide)]
    refine Or.inr ⟨rfl, ?_, rfl, rfl⟩
    unfold kd
    rw [if_neg (by omega)]
theorem mA_bk {W H : Int} {g : Int → Int} (hW : 3 ≤ W ∧ W ≤ 16) (hH : 3 ≤ H ∧ H ≤ 16) (u v : Int) : isBk W H g (celX W H u v) = decide (mA W H g u v = 2) := by
  unfold isBk
  rcases celX_kd (g := g) hW hH u v with h | h
  · rw [h.2.1]
  · rw [h.2.1, h.2.2.1]; decide
theorem mW_wd {W H : Int} {g : Int → Int} (hW : 3 ≤ W ∧ W ≤ 16) (hH : 3 ≤ H ∧ H ≤ 16) (u v : Int) : isWd W H g (celX W H u v) = mW W H g u v := by
  unfold isWd mW
  rcases celX_kd (g := g) hW hH u v with h | h
  · rw [h.2.1]
  · rw [h.2.1, h.2.2.1]; decide
theorem off_xy {W H x y d far : Int} (hW : 3 ≤ W ∧ W ≤ 16) (hH : 3 ≤ H ∧ H ≤ 16) (hx : 0 ≤ x ∧ x < W) (hy : 0 ≤ y ∧ y < H) (hd : 0 ≤ d ∧ d < 8) : offI W H (W * y + x) d far = celX W H (x + far * asX d) (y + far * asX (d + 6)) := by
  have hc := cell_rng hW hH hx hy
  unfold offI celX
  rw [if_neg (by omega), cell_mod hx, cell_div hx, asX_rx hd, asX_ry hd]
theorem off_1 {W H x y d : Int} (hW : 3 ≤ W ∧ W ≤ 16) (hH : 3 ≤ H ∧ H ≤ 16) (hx : 0 ≤ x ∧ x < W) (hy : 0 ≤ y ∧ y < H) (hd : 0 ≤ d ∧ d < 8) : offI W H (W * y + x) d 1 = celX W H (x + asX d) (y + asX (d + 6)) := by
  rw [off_xy hW hH hx hy hd, Int.one_mul, Int.one_mul]
abbrev OnI (W H x y d b : Int) : Prop := (0 ≤ x ∧ x < W) ∧ (0 ≤ y ∧ y < H) ∧ (0 ≤ d ∧ d < 8) ∧ (0 ≤ b ∧ b < 9)
def stdX (W x y d b : Int) : Int := ((W * y + x) * 8 + d) * 9 + b
theorem trn_xy {W H : Int} {g : Int → Int} {x y d no : Int} (hW : 3 ≤ W ∧ W ≤ 16) (hH : 3 ≤ H ∧ H ≤ 16) (hx : 0 ≤ x ∧ x < W) (hy : 0 ≤ y ∧ y < H) (hd : 0 ≤ d ∧ d < 8) : trn W H g (W * y + x) d no = (decide (mA W H g (x + asX d) (y + asX (d + 6)) = 2) || !mW W H g (x + no * asX d) (y + no * asX (d + 6))) := by
  unfold trn
  rw [off_1 hW hH hx hy hd, off_xy hW hH hx hy hd, mA_bk hW hH, mW_wd hW hH]
theorem ms_st {W H : Int} {g : Int → Int} {no tu be x y d b : Int} (hW : 3 ≤ W ∧ W ≤ 16) (hH : 3 ≤ H ∧ H ≤ 16) (htu : 1 ≤ tu ∧ tu ≤ 7) (hbe : 0 ≤ be ∧ be ≤ 9) (ho : OnI W H x y d b) {r x2 y2 d2 b2 : Int} (hm : (r, x2, y2, d2, b2) = msF W H g no tu be x y d b) :
    (r = -1 ∧ stF W H g no tu be (stdX W x y d b) = -1) ∨ ((r = 0 ∨ r = 1) ∧ OnI W H x2 y2 d2 b2 ∧ stF W H g no tu be (stdX W x y d b) = stdX W x2 y2 d2 b2 ∧ (r = if stdX W x2 y2 d2 b2 / 72 = stdX W x y d b / 72 then 0 else 1)) := by
  obtain ⟨hx, hy, hd, hb⟩ := ho
  have hc := cell_rng hW hH hx hy
  have e9 : stdX W x y d b / 9 = (W * y + x) * 8 + d := by unfold stdX; omega
  have e72 : stdX W x y d b / 72 = W * y + x := by unfold stdX; omega
  have em : stdX W x y d b % 9 = b := by unfold stdX; omega
  have e8 : ((W * y + x) * 8 + d) / 8 = W * y + x := by omega
  have e8m : ((W * y + x) * 8 + d) % 8 = d := by omega
  have hq : ¬ stdX W x y d b < 0 := by unfold stdX; omega
  have ht := trn_xy (g := g) (no := no) hW hH hx hy hd
  unfold stF nxI
  rw [if_neg hq, e9, e72, em, e8m]
  have hl : ldI W H g no ((W * y + x) * 8 + d) = if trn W H g (W * y + x) d no = true then -1 else if isWd W H g (offI W H (W * y + x) d 1) = true then offI W H (W * y + x) d 1 else -2 := by
    unfold ldI
    rw [e8, e8m]
  by_cases c1 : mA W H g (x + asX d) (y + asX (d + 6)) = 2 ∨ mW W H g (x + no * asX d) (y + no * asX (d + 6)) = false
  · rw [ms_turn c1] at hm
    simp only [Prod.mk.injEq] at hm
    obtain ⟨h1, h2, h3, h4, h5⟩ := hm
    have htt : trn W H g (W * y + x) d no = true := by
      rw [ht, Bool.or_eq_true, decide_eq_true_iff]
      exact c1.elim Or.inl (fun w => Or.inr (by rw [w]; rfl))
    have hl1 : ldI W H g no ((W * y + x) * 8 + d) = -1 := by rw [hl, htt]; rfl
    rw [hl1, if_pos rfl, h1, h2, h3, h4, h5]
    refine Or.inr ⟨Or.inl rfl, ⟨hx, hy, by omega, hb⟩, rfl, ?_⟩
    rw [if_pos (by unfold stdX; omega)]
  · have c2 : ¬ mA W H g (x + asX d) (y + asX (d + 6)) = 2 := fun w => c1 (Or.inl w)
    have c3 : mW W H g (x + no * asX d) (y + no * asX (d + 6)) = true := by
      cases w : mW W H g (x + no * asX d) (y + no * asX (d + 6)) with
      | true => rfl
      | false => exact absurd (Or.inr w) c1
    have htt : trn W H g (W * y + x) d no = false := by rw [ht, c3, decide_eq_false c2]; rfl
    rw [htt, off_1 hW hH hx hy hd, mW_wd hW hH] at hl
    cases c4 : mW W H g (x + asX d) (y + asX (d + 6)) with
    | false =>
      rw [ms_fall c2 c3 c4] at hm
      simp only [Prod.mk.injEq] at hm
      refine Or.inl ⟨hm.1, ?_⟩
      have hl1 : ldI W H g no ((W * y + x) * 8 + d) = -2 := by rw [hl, c4]; rfl
      rw [hl1, if_neg (by decide), if_pos (by decide)]
    | true =>
      rw [ms_move c2 c3 c4] at hm
      simp only [Prod.mk.injEq] at hm
      obtain ⟨h1, h2, h3, h4, h5⟩ := hm
      have hin : inT W H (x + asX d) (y + asX (d + 6)) = true := by
        rcases celX_kd (g := g) hW hH (x + asX d) (y + asX (d + 6)) with h | h
        · exact h.1
        · unfold mW at c4
          rw [h.2.2.1] at c4
          exact absurd c4 (by decide)
      have hxy := of_decide_eq_true hin
      have hce : celX W H (x + asX d) (y + asX (d + 6)) = W * y2 + x2 := by unfold celX; rw [if_pos hin, h2, h3]
      have hcr := cell_rng (x := x2) (y := y2) hW hH (by omega) (by omega)
      have hl1 : ldI W H g no ((W * y + x) * 8 + d) = W * y2 + x2 := by rw [hl, c4, hce]; rfl
      rw [hl1, if_neg (by omega), if_neg (by omega)]
      have hon : OnI W H x2 y2 d2 b2 := ⟨by omega, by omega, by omega, by omega⟩
      have hne : ¬ W * y2 + x2 = W * y + x := fun w => by
        have m1 := cell_mod (W := W) (x := x2) (y := y2) (by omega)
        have m2 := cell_mod (W := W) (x := x) (y := y) hx
        have v1 := cell_div (W := W) (x := x2) (y := y2) (by omega)
        have v2 := cell_div (W := W) (x := x) (y := y) hx
        rw [w, m2] at m1
        rw [w, v2] at v1
        have r1 := asX_rx hd
        have r2 := asX_ry hd
        unfold rx at r1
        unfold ry at r2
        omega
      refine Or.inr ⟨Or.inr h1, hon, ?_, ?_⟩
      · unfold stdX
        generalize W * y2 + x2 = t at *
        omega
      · have e2 : stdX W x2 y2 d2 b2 / 72 = W * y2 + x2 := by
          obtain ⟨_, _, o3, o4⟩ := hon
          unfold stdX
          generalize W * y2 + x2 = t at *
          omega
        rw [e2, if_neg hne]
        exact h1
