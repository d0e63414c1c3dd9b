/-! OUR PURE WORDS (18): a draft's numbers -/
abbrev DrI (W H : Int) (g : Int → Int) (bl sc sd no tu be sp : Int) : Prop :=
  (3 ≤ W ∧ W ≤ 16) ∧ (3 ≤ H ∧ H ≤ 16) ∧ (∀ j : Int, 0 ≤ j → j < 256 → 0 ≤ g j ∧ g j ≤ 2) ∧ (bl = -9 ∨ (0 ≤ bl ∧ bl < W * H)) ∧ (0 ≤ sc ∧ sc < W * H) ∧ (0 ≤ sd ∧ sd ≤ 7) ∧ (1 ≤ no ∧ no ≤ 3) ∧ (1 ≤ tu ∧ tu ≤ 7) ∧ (0 ≤ be ∧ be ≤ 9) ∧ (0 ≤ sp ∧ sp ≤ 999)
abbrev DrZ (Z : DT) : Prop := DrI Z.1 Z.2.1 Z.2.2.1 Z.2.2.2.1 Z.2.2.2.2.1 Z.2.2.2.2.2.1 Z.2.2.2.2.2.2.1 Z.2.2.2.2.2.2.2.1 Z.2.2.2.2.2.2.2.2.1 Z.2.2.2.2.2.2.2.2.2
abbrev NuOk (W H w : Int) (nu : Int → Int) (i : Int) : Prop := ∀ j : Int, 0 ≤ j → j < i → (0 ≤ nu j ∧ nu j < 1000) ∧ insN W H nu w j (nu j) = true
theorem nuOk_up {W H w i v : Int} {nu : Int → Int} (hi : 0 ≤ i) (h : NuOk W H w nu i) (hv : 0 ≤ v ∧ v < 1000) (hin : insN W H nu w i v = true) : NuOk W H w (upZ nu i v) (i + 1) := fun j a b => by
  by_cases hj : j = i
  · subst hj
    have hc := insN_cong (W := W) (H := H) (nu := upZ nu j v) (nv := nu) (w := w) (i := j) (v := v) hi (fun q a b => upZ_n (by omega))
    rw [upZ_s]
    exact ⟨hv, hc.trans hin⟩
  · have h5 := h j a (by omega)
    have hc := insN_cong (W := W) (H := H) (nu := upZ nu i v) (nv := nu) (w := w) (i := j) (v := nu j) a (fun q a b => upZ_n (by omega))
    rw [upZ_n hj]
    exact ⟨h5.1, hc.trans h5.2⟩
theorem nusF_ok {tb : Int → Int} {tn W H w : Int} : ∀ (m : Nat) (i : Int) (nu : Int → Int) (p : Int), (0 ≤ i ∧ i ≤ nofW w) → nofW w - i < (m : Int) → NuOk W H w nu i → (nusF tb tn W H w m i nu p).1 < 0 → 0 ≤ p ∧ p ≤ tn → NuOk W H w (nusF tb tn W H w m i nu p).2.1 (nofW w) ∧ (p ≤ (nusF tb tn W H w m i nu p).2.2 ∧ (nusF tb tn W H w m i nu p).2.2 ≤ tn)
  | 0, i, nu, p, h1, h2, h3, h4, h5 => absurd h2 (by omega)
  | m + 1, i, nu, p, h1, h2, h3, h4, h5 => by
    rw [nusF] at h4 ⊢
    by_cases hi : i < nofW w
    · rw [if_pos hi] at h4 ⊢
      by_cases q : tkS tb tn p = 2 ∧ insN W H nu w i (tkV tb tn p) = true
      · rw [if_pos q] at h4 ⊢
        have hr := tk_rng (tb := tb) h5
        have ih := nusF_ok m (i + 1) _ _ (by omega) (by omega) (nuOk_up h1.1 h3 (tkV_2 q.1) q.2) h4 ⟨by omega, by omega⟩
        exact ⟨ih.1, by omega, ih.2.2⟩
      · rw [if_neg q] at h4
        have hr := tk_rng (tb := tb) h5
        exact absurd h4 (by dsimp only; omega)
    · rw [if_neg hi]
      have e : i = nofW w := by omega
      exact ⟨by rw [← e]; exact h3, by dsimp only; omega⟩
theorem nuOk_T {W H : Int} {nu : Int → Int} {w i : Int} (h : NuOk W H w nu (nofW w)) (hw : w = 0) (hi : 0 ≤ i ∧ i < 2) : 3 ≤ nu i ∧ nu i ≤ 16 := by
  have a := (h i hi.1 (by unfold nofW; omega)).2
  unfold insN at a
  rw [if_pos hw] at a
  exact of_decide_eq_true a
theorem nuOk_Y {W H : Int} {nu : Int → Int} {w i : Int} (h : NuOk W H w nu (nofW w)) (hw : w = 4) (hi : 0 ≤ i ∧ i < 4) : (if i < 2 then 1 else 0) ≤ nu i ∧ nu i ≤ (if i = 0 then 3 else if i = 1 then 7 else if i = 2 then 9 else 999) := by
  have a := (h i hi.1 (by unfold nofW; omega)).2
  unfold insN at a
  rw [if_neg (by omega), if_pos hw] at a
  exact of_decide_eq_true a
theorem nuOk_01 {W H : Int} {nu : Int → Int} {w : Int} (h : NuOk W H w nu (nofW w)) (hw : ¬ w = 0) (hw4 : ¬ w = 4) : (0 ≤ nu 0 ∧ nu 0 < W) ∧ (0 ≤ nu 1 ∧ nu 1 < H) := by
  have hn : 2 ≤ nofW w := by unfold nofW; omega
  have a := h 0 (by omega) (by omega)
  have b := h 1 (by omega) (by omega)
  have a2 := a.2
  have b2 := b.2
  unfold insN at a2 b2
  rw [if_neg hw, if_neg hw4, if_pos rfl] at a2
  rw [if_neg hw, if_neg hw4, if_neg (by omega), if_pos rfl] at b2
  exact ⟨⟨a.1.1, of_decide_eq_true a2⟩, b.1.1, of_decide_eq_true b2⟩
theorem nuOk_5 {W H : Int} {nu : Int → Int} {w : Int} (h : NuOk W H w nu (nofW w)) (hw : w = 5) : 0 ≤ nu 2 ∧ nu 2 ≤ 7 := by
  have a := h 2 (by omega) (by unfold nofW; omega)
  have a2 := a.2
  unfold insN at a2
  rw [if_neg (by omega), if_neg (by omega), if_neg (by omega), if_neg (by omega), if_pos rfl, if_pos hw] at a2
  exact ⟨a.1.1, of_decide_eq_true a2⟩
theorem layF_rng {W : Int} {g : Int → Int} {kd9 x y a b : Int} (hk : kd9 = 1 ∨ kd9 = 2) (hg : ∀ j : Int, 0 ≤ j → j < 256 → 0 ≤ g j ∧ g j ≤ 2) : ∀ j : Int, 0 ≤ j → j < 256 → 0 ≤ layF W g kd9 x y a b j ∧ layF W g kd9 x y a b j ≤ 2 := fun j h1 h2 => by
  have := hg j h1 h2
  unfold layF
  by_cases q : inR W x y a b j = true ∧ (kd9 = 1 ∨ g j = 0)
  · rw [if_pos q]; omega
  · rw [if_neg q]; omega
theorem telF_DrZ {Z : DT} {nu : Int → Int} {w : Int} (h : DrZ Z) (hw : 0 ≤ w ∧ w < 6) (h0 : w = 0 → Z.2.2.2.1 = -9 ∧ Z.2.2.2.2.1 = 0) (hn : NuOk Z.1 Z.2.1 w nu (nofW w)) : DrZ (telF Z nu w) := by
  obtain ⟨W, H, g, bl, sc, sd, no, tu, be, sp⟩ := Z
  obtain ⟨hW, hH, hg, hb, hsc, hsd, hno, htu, hbe, hsp⟩ := h
  dsimp only at hW hH hg hb hsc hsd hno htu hbe hsp h0 hn
  simp only [telF]
  by_cases c0 : w = 0
  · rw [if_pos c0]
    have a := nuOk_T hn c0 (i := 0) (by omega)
    have b := nuOk_T hn c0 (i := 1) (by omega)
    have hz := h0 c0
    have hr := wh_rng a b
    exact ⟨a, b, hg, Or.inl hz.1, ⟨by dsimp only; omega, by dsimp only; omega⟩, hsd, hno, htu, hbe, hsp⟩
  · rw [if_neg c0]
    by_cases c1 : w = 1 ∨ w = 2
    · rw [if_pos c1]
      exact ⟨hW, hH, layF_rng c1 hg, hb, hsc, hsd, hno, htu, hbe, hsp⟩
    · rw [if_neg c1]
      by_cases c3 : w = 3
      · rw [if_pos c3]
        have a := nuOk_01 hn c0 (by omega)
        exact ⟨hW, hH, hg, Or.inr (cell_rng hW hH a.1 a.2), hsc, hsd, hno, htu, hbe, hsp⟩
      · rw [if_neg c3]
        by_cases c4 : w = 4
        · rw [if_pos c4]
          have a0 := nuOk_Y hn c4 (i := 0) (by omega)
          have a1 := nuOk_Y hn c4 (i := 1) (by omega)
          have a2 := nuOk_Y hn c4 (i := 2) (by omega)
          have a3 := nuOk_Y hn c4 (i := 3) (by omega)
          exact ⟨hW, hH, hg, hb, hsc, hsd, ⟨by dsimp only; omega, by dsimp only; omega⟩, ⟨by dsimp only; omega, by dsimp only; omega⟩, ⟨by dsimp only; omega, by dsimp only; omega⟩, ⟨by dsimp only; omega, by dsimp only; omega⟩⟩
        · rw [if_neg c4]
          have a := nuOk_01 hn c0 (by omega)
          exact ⟨hW, hH, hg, hb, cell_rng hW hH a.1 a.2, nuOk_5 hn (by omega), hno, htu, hbe, hsp⟩
/-- an item that is told: the draft stays one, the place moves on -/
theorem itm_DrZ {tb : Int → Int} {tn : Int} {Z : DT} {it m p : Int} (hp : 0 ≤ p ∧ p ≤ tn) (h : DrZ Z) (h0 : it = 0 → Z.2.2.2.1 = -9 ∧ Z.2.2.2.2.1 = 0) (hok : (itmF tb tn Z it m p).1 < 0) : DrZ (itmF tb tn Z it m p).2.1 ∧ p < (itmF tb tn Z it m p).2.2.2 ∧ (itmF tb tn Z it m p).2.2.2 ≤ tn := by
  by_cases c : tkS tb tn p = 1 ∧ mayS it m (tkV tb tn p) = true
  · have hv := tkV_1 c.1
    have hr := tk_rng (tb := tb) hp
    have hlt := tk_lt (tb := tb) hp (by omega)
    unfold itmF at hok ⊢
    rw [if_pos c] at hok ⊢
    by_cases c2 : 0 ≤ (nusF tb tn Z.1 Z.2.1 (tkV tb tn p) 5 0 (fun _ => 0) (tkE tb tn p)).1
    · rw [if_pos c2] at hok; exact absurd hok (by dsimp only; omega)
    · rw [if_neg c2] at hok ⊢
      have hnr := nofW_rng (tkV tb tn p)
      have hn := nusF_ok (tb := tb) (tn := tn) (W := Z.1) (H := Z.2.1) (w := tkV tb tn p) 5 0 (fun _ => 0) (tkE tb tn p) ⟨by omega, by omega⟩ (by omega) (fun j a b => by omega) (by omega) (by omega)
      by_cases c3 : tkS tb tn (nusF tb tn Z.1 Z.2.1 (tkV tb tn p) 5 0 (fun _ => 0) (tkE tb tn p)).2.2 = 3
      · rw [if_pos c3]
        have hr2 := tk_rng (tb := tb) (tn := tn) (p := (nusF tb tn Z.1 Z.2.1 (tkV tb tn p) 5 0 (fun _ => 0) (tkE tb tn p)).2.2) (by omega)
        refine ⟨telF_DrZ h hv (fun q => h0 ?_) hn.1, by dsimp only; omega, by dsimp only; omega⟩
        have hm := c.2
        unfold mayS at hm
        rw [if_pos q] at hm
        exact of_decide_eq_true hm
      · rw [if_neg c3] at hok
        have hr2 := tk_rng (tb := tb) (tn := tn) (p := (nusF tb tn Z.1 Z.2.1 (tkV tb tn p) 5 0 (fun _ => 0) (tkE tb tn p)).2.2) (by omega)
        exact absurd hok (by dsimp only; omega)
  · unfold itmF at hok
    rw [if_neg c] at hok
    have hr := tk_rng (tb := tb) hp
    exact absurd hok (by dsimp only; omega)
theorem nusF_le {tb : Int → Int} {tn W H w : Int} : ∀ (m : Nat) (i : Int) (nu : Int → Int) (p : Int), 0 ≤ p ∧ p ≤ tn → (nusF tb tn W H w m i nu p).1 ≤ tn ∧ (p ≤ (nusF tb tn W H w m i nu p).2.2 ∧ (nusF tb tn W H w m i nu p).2.2 ≤ tn)
  | 0, i, nu, p, h5 => ⟨by rw [nusF]; dsimp only; omega, by rw [nusF]; dsimp only; omega⟩
  | m + 1, i, nu, p, h5 => by
    have hr := tk_rng (tb := tb) h5
    rw [nusF]
    by_cases hi : i < nofW w
    · rw [if_pos hi]
      by_cases q : tkS tb tn p = 2 ∧ insN W H nu w i (tkV tb tn p) = true
      · rw [if_pos q]
        have ih := nusF_le (tb := tb) (tn := tn) (W := W) (H := H) (w := w) m (i + 1) (upZ nu i (tkV tb tn p)) (tkE tb tn p) ⟨by omega, by omega⟩
        exact ⟨ih.1, by omega, ih.2.2⟩
      · rw [if_neg q]
        exact ⟨by dsimp only; omega, by dsimp only; omega⟩
    · rw [if_neg hi]
      exact ⟨by dsimp only; omega, by dsimp only; omega⟩
theorem itm_le {tb : Int → Int} {tn : Int} {Z : DT} {it m p : Int} (hp : 0 ≤ p ∧ p ≤ tn) : (itmF tb tn Z it m p).1 ≤ tn := by
  have hr := tk_rng (tb := tb) hp
  have hK := nusF_le (tb := tb) (tn := tn) (W := Z.1) (H := Z.2.1) (w := tkV tb tn p) 5 0 (fun _ => 0) (tkE tb tn p) ⟨by omega, by omega⟩
  have hr2 := tk_rng (tb := tb) (tn := tn) (p := (nusF tb tn Z.1 Z.2.1 (tkV tb tn p) 5 0 (fun _ => 0) (tkE tb tn p)).2.2) ⟨by omega, hK.2.2⟩
  unfold itmF
  by_cases c : tkS tb tn p = 1 ∧ mayS it m (tkV tb tn p) = true
  · rw [if_pos c]
    by_cases c2 : 0 ≤ (nusF tb tn Z.1 Z.2.1 (tkV tb tn p) 5 0 (fun _ => 0) (tkE tb tn p)).1
    · rw [if_pos c2]; exact hK.1
    · rw [if_neg c2]
      by_cases c3 : tkS tb tn (nusF tb tn Z.1 Z.2.1 (tkV tb tn p) 5 0 (fun _ => 0) (tkE tb tn p)).2.2 = 3
      · rw [if_pos c3]; dsimp only; omega
      · rw [if_neg c3]; dsimp only; omega
  · rw [if_neg c]; dsimp only; omega
theorem tab_go {tb : Int → Int} {tn : Int} {n : Nat} {Z : DT} {it m p : Int} {K : Int × DT} (h : tabF tb tn n Z it m p = K) (hn : 0 < n) (hs : ¬ tkS tb tn p = 0) (hi : (itmF tb tn Z it m p).1 < 0) : tabF tb tn (n - 1) (itmF tb tn Z it m p).2.1 (it + 1) (itmF tb tn Z it m p).2.2.1 (itmF tb tn Z it m p).2.2.2 = K := by
  cases n with
  | zero => exact absurd hn (by omega)
  | succ k =>
    rw [tabF, if_neg hs, if_neg (by omega)] at h
    exact h
theorem tab_fail {tb : Int → Int} {tn : Int} {n : Nat} {Z : DT} {it m p : Int} {K : Int × DT} (h : tabF tb tn n Z it m p = K) (hn : 0 < n) (hs : ¬ tkS tb tn p = 0) (hi : 0 ≤ (itmF tb tn Z it m p).1) : K = (-10 - (itmF tb tn Z it m p).1, Z) := by
  cases n with
  | zero => exact absurd hn (by omega)
  | succ k =>
    rw [tabF, if_neg hs, if_pos hi] at h
    exact h.symm
theorem tab_end {tb : Int → Int} {tn : Int} {n : Nat} {Z : DT} {it m p : Int} {K : Int × DT} (h : tabF tb tn n Z it m p = K) (hs : tkS tb tn p = 0) : K = (it, Z) := by
  cases n with
  | zero => rw [tabF] at h; exact h.symm
  | succ k =>
    rw [tabF, if_pos hs] at h
    exact h.symm
theorem DrI_0 {g : Int → Int} (hg : ∀ j : Int, 0 ≤ j → j < 256 → g j = 0) : DrI 8 8 g (-9) 0 2 1 3 0 200 := ⟨by omega, by omega, fun j a b => by rw [hg j a b]; omega, Or.inl rfl, by omega, by omega, by omega, by omega, by omega, by omega⟩
