/-! OUR PURE WORDS (40): the model's steps of NOW -/
theorem celX_on {W H x y : Int} (hx : 0 ≤ x ∧ x < W) (hy : 0 ≤ y ∧ y < H) : celX W H x y = W * y + x := if_pos (decide_eq_true ⟨hx.1, hx.2, hy.1, hy.2⟩)
theorem mSt_stI {W H x y sp : Int} {g : Int → Int} (hW : 3 ≤ W ∧ W ≤ 16) (hH : 3 ≤ H ∧ H ≤ 16) : mSt W H g x y sp = stI W H g (celX W H x y) sp := by
  unfold mSt stI
  rw [mW_wd hW hH]
  cases c : mW W H g x y with
  | true => rw [if_neg (by decide), if_pos rfl]
  | false => rw [if_pos rfl, if_neg (by decide)]
theorem mSt_0 {W H x y sp : Int} {g : Int → Int} (h : mSt W H g x y sp = 0) : mW W H g x y = true ∧ ¬ sp = 0 := by
  have h2 := mSt_2 (show ¬ mSt W H g x y sp = 2 by rw [h]; decide)
  refine ⟨h2, fun w => ?_⟩
  unfold mSt at h
  rw [if_neg (by rw [h2]; decide), if_pos w] at h
  exact absurd h (by decide)
theorem srt_xy {W H : Int} {g : Int → Int} {x y d no ro : Int} (hW : 3 ≤ W ∧ W ≤ 16) (hH : 3 ≤ H ∧ H ≤ 16) (hx : 0 ≤ x ∧ x < W) (hy : 0 ≤ y ∧ y < H) (hd : 0 ≤ d ∧ d < 8) : srt W H g no (W * y + x) d ro = if mA W H g (x + asX d) (y + asX (d + 6)) = 2 then 5 else if 4 ≤ ro then 4 else if d % 2 = 0 then 2 else if mW W H g (x + no * asX (d + 7)) (y + no * asX (d + 7 + 6)) = false ∧ mW W H g (x + no * asX (d + 1)) (y + no * asX (d + 1 + 6)) = false then 3 else 1 := by
  have a1 : asX ((d + 1) % 8) = asX (d + 1) := by unfold asX; omega
  have a2 : asX ((d + 1) % 8 + 6) = asX (d + 1 + 6) := by unfold asX; omega
  have a3 : asX ((d + 7) % 8) = asX (d + 7) := by unfold asX; omega
  have a4 : asX ((d + 7) % 8 + 6) = asX (d + 7 + 6) := by unfold asX; omega
  unfold srt
  rw [off_1 hW hH hx hy hd, mA_bk hW hH, off_xy hW hH hx hy (show 0 ≤ (d + 1) % 8 ∧ (d + 1) % 8 < 8 by omega), off_xy hW hH hx hy (show 0 ≤ (d + 7) % 8 ∧ (d + 7) % 8 < 8 by omega), mW_wd hW hH, mW_wd hW hH, a1, a2, a3, a4]
  by_cases c1 : mA W H g (x + asX d) (y + asX (d + 6)) = 2
  · rw [if_pos (decide_eq_true c1), if_pos c1]
  · rw [if_neg (fun w => c1 (of_decide_eq_true w)), if_neg c1]
    by_cases c2 : 4 ≤ ro
    · rw [if_pos c2, if_pos c2]
    · rw [if_neg c2, if_neg c2]
      by_cases c3 : d % 2 = 0
      · rw [if_pos c3, if_pos c3]
      · rw [if_neg c3, if_neg c3]
        generalize mW W H g (x + no * asX (d + 1)) (y + no * asX (d + 1 + 6)) = a
        generalize mW W H g (x + no * asX (d + 7)) (y + no * asX (d + 7 + 6)) = b
        cases a <;> cases b <;> simp
theorem srt_v {P Q : Prop} [Decidable P] [Decidable Q] {ro d cor v : Int} (hc : cor = if Q then 1 else 0) (h : (P ∧ v = 5) ∨ (¬ P ∧ 3 < ro ∧ v = 4) ∨ (¬ P ∧ ¬ 3 < ro ∧ v = if ¬ d % 2 = 0 then (if cor = 0 then 1 else 3) else 2)) : v = if P then 5 else if 4 ≤ ro then 4 else if d % 2 = 0 then 2 else if Q then 3 else 1 := by
  rcases h with ⟨h1, h2⟩ | ⟨h1, h2, h3⟩ | ⟨h1, h2, h3⟩
  · rw [if_pos h1]; exact h2
  · rw [if_neg h1, if_pos (by omega)]; exact h3
  · rw [if_neg h1, if_neg (show ¬ 4 ≤ ro by omega), h3]
    by_cases c : d % 2 = 0
    · rw [if_neg (fun w => w c), if_pos c]
    · rw [if_pos c, if_neg c, hc]
      by_cases q : Q
      · rw [if_pos q, if_pos q]; rfl
      · rw [if_neg q, if_neg q]; rfl
theorem cor_t {a b : Bool} (h : (!a) = false) : (0 : Int) = if a = false ∧ b = false then 1 else 0 := by cases a <;> cases b <;> simp_all
theorem cor_f {a b : Bool} {t : Int} (h : (!a) = true) (ht : t = if (!b) = false then 0 else 1) : t = if a = false ∧ b = false then 1 else 0 := by cases a <;> cases b <;> simp_all
def NSt (W H : Int) (s : Int → Int) : NT := (celX W H (s 0) (s 1), s 2, s 3, s 4, s 5, s 6, s 7, s 8, s 9, s 10)
theorem nst_eq {W H : Int} {s : Int → Int} {k d b sp st mo tn ri la ro : Int} (h0 : celX W H (s 0) (s 1) = k) (h2 : s 2 = d) (h3 : s 3 = b) (h4 : s 4 = sp) (h5 : s 5 = st) (h6 : s 6 = mo) (h7 : s 7 = tn) (h8 : s 8 = ri) (h9 : s 9 = la) (h10 : s 10 = ro) : NSt W H s = (k, d, b, sp, st, mo, tn, ri, la, ro) := by
  unfold NSt; rw [h0, h2, h3, h4, h5, h6, h7, h8, h9, h10]
theorem ms_stp {W H : Int} {g : Int → Int} {no tu be bl x y d b sp st mo tn ri la ro : Int} (hW : 3 ≤ W ∧ W ≤ 16) (hH : 3 ≤ H ∧ H ≤ 16) (htu : 1 ≤ tu ∧ tu ≤ 7) (hbe : 0 ≤ be ∧ be ≤ 9) (ho : OnI W H x y d b) {r x2 y2 d2 b2 : Int} (hm : (r, x2, y2, d2, b2) = msF W H g no tu be x y d b) :
    stpN (W, H, g, no, tu, be, bl) (W * y + x, d, b, sp, st, mo, tn, ri, la, ro) = (celX W H x2 y2, d2, b2, sp - 1, st + 1, if r = 0 then mo else mo + 1, if r = 0 then tn + 1 else tn, if r = 1 ∧ W * y2 + x2 = bl then ri + 1 else ri, if r = 0 then srt W H g no (W * y + x) d (ro + 1) else la, if r = 0 then ro + 1 else 0) ∧ (r = -1 ∨ r = 0 ∨ r = 1) ∧ (-1 ≤ x2 ∧ x2 ≤ W) ∧ (-1 ≤ y2 ∧ y2 ≤ H) ∧ (0 ≤ d2 ∧ d2 < 8) ∧ (0 ≤ b2 ∧ b2 < 9) := by
  obtain ⟨hx, hy, hd, hb⟩ := ho
  have ht := trn_xy (g := g) (no := no) hW hH hx hy hd
  have ho1 := off_1 hW hH hx hy hd
  have ar1 := asX_rng d
  have ar2 := asX_rng (d + 6)
  have hce := celX_on hx hy
  simp only [stpN]
  by_cases c1 : mA W H g (x + asX d) (y + asX (d + 6)) = 2 ∨ mW W H g (x + no * asX d) (y + no * asX (d + 6)) = false
  · rw [ms_turn c1] at hm
    simp only [Prod.mk.injEq] at hm
    obtain ⟨h1, h2, h3, h4, h5⟩ := hm
    have htt : trn W H g (W * y + x) d no = true := by
      rw [ht, Bool.or_eq_true, decide_eq_true_iff]
      exact c1.elim Or.inl (fun w => Or.inr (by rw [w]; rfl))
    subst h1; subst h2; subst h3; subst h4; subst h5
    rw [if_pos htt, hce]
    exact ⟨by simp, by omega, by omega, by omega, by omega, hb⟩
  · have c2 : ¬ mA W H g (x + asX d) (y + asX (d + 6)) = 2 := fun w => c1 (Or.inl w)
    have c3 : mW W H g (x + no * asX d) (y + no * asX (d + 6)) = true := by
      cases w : mW W H g (x + no * asX d) (y + no * asX (d + 6)) with
      | true => rfl
      | false => exact absurd (Or.inr w) c1
    have htt : trn W H g (W * y + x) d no = false := by rw [ht, c3, decide_eq_false c2]; rfl
    rw [if_neg (by rw [htt]; decide)]
    cases c4 : mW W H g (x + asX d) (y + asX (d + 6)) with
    | false =>
      rw [ms_fall c2 c3 c4] at hm
      simp only [Prod.mk.injEq] at hm
      obtain ⟨h1, h2, h3, h4, h5⟩ := hm
      subst h1; subst h2; subst h3; subst h4; subst h5
      rw [ho1, mW_wd hW hH, c4, if_neg (by decide)]
      exact ⟨by simp, by omega, by omega, by omega, hd, hb⟩
    | true =>
      rw [ms_move c2 c3 c4] at hm
      simp only [Prod.mk.injEq] at hm
      obtain ⟨h1, h2, h3, h4, h5⟩ := hm
      have hin := mW_in c4
      have hc2 := celX_on hin.1 hin.2
      subst h1; subst h2; subst h3
      rw [ho1, mW_wd hW hH, c4, if_pos rfl, hc2, ← h4, ← h5]
      exact ⟨by simp, by omega, by omega, by omega, by omega, by omega⟩
abbrev SRI (s : Int → Int) : Prop := (-1 ≤ s 0 ∧ s 0 ≤ 16) ∧ (-1 ≤ s 1 ∧ s 1 ≤ 16) ∧ (0 ≤ s 2 ∧ s 2 < 8) ∧ (0 ≤ s 3 ∧ s 3 < 9) ∧ (0 ≤ s 4 ∧ s 4 < 1000) ∧ 0 ≤ s 10
/-! chance -/
abbrev OqI (oc : Int → Int) (s : Nat → Int) (k : Nat) : Prop := ∀ c : Int, 0 ≤ c → c < 256 → (oc c = 0 ∨ oc c = 1) ∧ (oc c = 1 ↔ sqS s k c = true)
theorem oq_0 {oc : Int → Int} {s : Nat → Int} (h : ∀ j : Int, 0 ≤ j → j < 256 → oc j = 0) : OqI oc s 0 := fun c a b => ⟨Or.inl (h c a b), fun w => absurd w (by rw [h c a b]; decide), fun w => by simp [sqS] at w⟩
theorem oq_step {oc : Int → Int} {s : Nat → Int} {c r : Int} {k : Nat} (h : OqI oc s k) (hc : c = s k / 72) (hc2 : 0 ≤ c ∧ c < 256) (hi : 0 ≤ s k) (hr : r = if oc c = 0 then 1 else 0) : OqI (upZ oc c 1) s (k + 1) ∧ sqC s (k + 1) = sqC s k + r := by
  have hs := h c hc2.1 hc2.2
  refine ⟨fun j a b => ?_, ?_⟩
  · rw [sqS, Bool.or_eq_true, decide_eq_true_iff]
    by_cases e : j = c
    · rw [e, upZ_s]; exact ⟨Or.inr rfl, fun _ => Or.inr hc.symm, fun _ => rfl⟩
    · rw [upZ_n e]
      refine ⟨(h j a b).1, fun w => Or.inl ((h j a b).2.mp w), fun w => w.elim (h j a b).2.mpr (fun w2 => absurd (hc.trans w2).symm e)⟩
  · rw [sqC]
    rcases hs.1 with w | w
    · have hf : sqS s k c = false := by
        cases u : sqS s k c with
        | false => rfl
        | true => have := hs.2.mpr u; omega
      rw [hr, if_pos w, if_pos ⟨hi, by rw [← hc]; exact hf⟩]
    · have ht := hs.2.mp w
      rw [hr, if_neg (show ¬ oc c = 0 by omega), if_neg (show ¬ (0 ≤ s k ∧ sqS s k (s k / 72) = false) from fun u => by rw [← hc, ht] at u; exact absurd u.2 (by decide))]
theorem ld_tc {W H : Int} {g wk : Int → Int} {no q : Int} (hW : 3 ≤ W ∧ W ≤ 16) (hH : 3 ≤ H ∧ H ≤ 16) (h : RepI W H wk q) : ldI W H g no (q / 9) = -1 ↔ (mA W H g (wk 0 + asX (wk 2)) (wk 1 + asX (wk 2 + 6)) = 2 ∨ mW W H g (wk 0 + no * asX (wk 2)) (wk 1 + no * asX (wk 2 + 6)) = false) := by
  obtain ⟨h1, hx, hy, hd, hb⟩ := h
  have ht := trn_xy (g := g) (no := no) hW hH hx hy hd
  have ho1 := off_1 hW hH hx hy hd
  have e9 : q / 9 = (W * wk 1 + wk 0) * 8 + wk 2 := by rw [← h1]; unfold stdX; omega
  have e8 : ((W * wk 1 + wk 0) * 8 + wk 2) / 8 = W * wk 1 + wk 0 := by omega
  have e8m : ((W * wk 1 + wk 0) * 8 + wk 2) % 8 = wk 2 := by omega
  unfold ldI
  rw [e9, e8, e8m, ht]
  constructor
  · intro w
    by_cases c : (decide (mA W H g (wk 0 + asX (wk 2)) (wk 1 + asX (wk 2 + 6)) = 2) || !mW W H g (wk 0 + no * asX (wk 2)) (wk 1 + no * asX (wk 2 + 6))) = true
    · rw [Bool.or_eq_true, decide_eq_true_iff] at c
      exact c.imp id (fun v => by simpa using v)
    · rw [if_neg c] at w
      by_cases c2 : isWd W H g (offI W H (W * wk 1 + wk 0) (wk 2) 1) = true
      · rw [if_pos c2] at w
        have := isWd_in c2
        omega
      · rw [if_neg c2] at w; omega
  · intro w
    rw [if_pos (by rw [Bool.or_eq_true, decide_eq_true_iff]; exact w.imp id (fun v => by rw [v]; rfl))]
theorem rep_stepB {W H : Int} {g : Int → Int} {no tu be q r t : Int} {wk wk2 : Int → Int} {S : Int × Int} {k : Nat} (hW : 3 ≤ W ∧ W ≤ 16) (hH : 3 ≤ H ∧ H ≤ 16) (htu : 1 ≤ tu ∧ tu ≤ 7) (hbe : 0 ≤ be ∧ be ≤ 9) (h : RepI W H wk q) (hD : dwN W H g no tu be S k = (q, t)) {P : Prop} [Decidable P] (hP : P ↔ (mA W H g (wk 0 + asX (wk 2)) (wk 1 + asX (wk 2 + 6)) = 2 ∨ mW W H g (wk 0 + no * asX (wk 2)) (wk 1 + no * asX (wk 2 + 6)) = false))
    (hm : (r, wk2 0, wk2 1, wk2 2, wk2 3) = msF W H g no (if P then 1 + drU (lotN t) else tu) be (wk 0) (wk 1) (wk 2) (wk 3)) :
    ((r = -1 ∧ (dwN W H g no tu be S (k + 1)).1 = -1) ∨ ((r = 0 ∨ r = 1) ∧ RepI W H wk2 (dwN W H g no tu be S (k + 1)).1)) ∧ (dwN W H g no tu be S (k + 1)).2 = if P then lotN t else t := by
  have hq := (rep_cell hW hH h).2.2
  have hl := ld_tc (g := g) (no := no) hW hH h
  have hdr := drU_rng (lotN t)
  by_cases c : P
  · rw [if_pos c] at hm ⊢
    rw [dw_turn hD hq (hl.mpr (hP.mp c))]
    refine ⟨?_, rfl⟩
    rcases rep_step hW hH (by omega) hbe h hm with w | w
    · exact Or.inl w
    · exact Or.inr ⟨w.1, w.2.1⟩
  · rw [if_neg c] at hm ⊢
    rw [dw_go (t1 := tu) hD hq (fun w => c (hP.mpr (hl.mp w)))]
    refine ⟨?_, rfl⟩
    rcases rep_step hW hH htu hbe h hm with w | w
    · exact Or.inl w
    · exact Or.inr ⟨w.1, w.2.1⟩
