/-! OUR PURE WORDS (16): an item of a text -/
/-- the rectangle of cells from x y on, a wide, b high -/
def inR (W x y a b k : Int) : Bool := decide (y ≤ k / W ∧ k / W < y + b ∧ x ≤ k % W ∧ k % W < x + a)
def layF (W : Int) (g : Int → Int) (kd9 x y a b : Int) : Int → Int := fun k => if inR W x y a b k = true ∧ (kd9 = 1 ∨ g k = 0) then kd9 else g k
/-- what has been told of words -/
def mskO (m w : Int) : Int := (iI m ||| (iI 1 <<< (iI w &&& 31))).toInt
def mskT (m w : Int) : Int := ((iI m >>> (iI w &&& 31)) &&& iI 1).toInt
theorem iI_mskO (m w : Int) : iI (mskO m w) = iI m ||| (iI 1 <<< (iI w &&& 31)) := Int32.ofInt_toInt _
theorem iI_mskT (m w : Int) : iI (mskT m w) = (iI m >>> (iI w &&& 31)) &&& iI 1 := Int32.ofInt_toInt _
theorem mskT_rng (m w : Int) : -2147483648 ≤ mskT m w ∧ mskT m w < 2147483648 := ⟨by have := ((iI m >>> (iI w &&& 31)) &&& iI 1).le_toInt; unfold mskT; omega, by have := ((iI m >>> (iI w &&& 31)) &&& iI 1).toInt_lt; unfold mskT; omega⟩
def mayS (it m w : Int) : Bool := if w = 0 then decide (it = 0) else if w = 1 ∨ w = 2 then true else decide (mskT m w = 0)
def nofW (w : Int) : Int := if w = 0 ∨ w = 3 then 2 else if w = 5 then 3 else 4
/-- whether v may be the i-th number of the word w, behind the numbers nu; the table so far is W wide, H high -/
def insN (W H : Int) (nu : Int → Int) (w i v : Int) : Bool :=
  if w = 0 then decide (3 ≤ v ∧ v ≤ 16) else if w = 4 then decide ((if i < 2 then 1 else 0) ≤ v ∧ v ≤ (if i = 0 then 3 else if i = 1 then 7 else if i = 2 then 9 else 999))
  else if i = 0 then decide (v < W) else if i = 1 then decide (v < H) else if i = 2 then (if w = 5 then decide (v ≤ 7) else decide (1 ≤ v ∧ nu 0 + v ≤ W)) else decide (1 ≤ v ∧ nu 1 + v ≤ H)
/-- a draft of a table: wide, high, kinds, bell, start's cell, its direction, nose, turn, bend, spring -/
abbrev DT : Type := Int × Int × (Int → Int) × Int × Int × Int × Int × Int × Int × Int
def telF (Z : DT) (nu : Int → Int) (w : Int) : DT := match Z with
  | (W, H, g, bl, sc, sd, no, tu, be, sp) =>
    if w = 0 then (nu 0, nu 1, g, bl, sc, sd, no, tu, be, sp) else if w = 1 ∨ w = 2 then (W, H, layF W g w (nu 0) (nu 1) (nu 2) (nu 3), bl, sc, sd, no, tu, be, sp)
    else if w = 3 then (W, H, g, W * nu 1 + nu 0, sc, sd, no, tu, be, sp) else if w = 4 then (W, H, g, bl, sc, sd, nu 0, nu 1, nu 2, nu 3) else (W, H, g, bl, W * nu 1 + nu 0, nu 2, no, tu, be, sp)
def Z0 : DT := (8, 8, fun _ => 0, -9, 0, 2, 1, 3, 0, 200)
/-- the numbers of an item behind place p, from the i-th on: where the fault is (a place, or -1), the numbers, the place behind -/
def nusF (tb : Int → Int) (tn W H w : Int) : Nat → Int → (Int → Int) → Int → Int × (Int → Int) × Int
  | 0, _, nu, p => (-1, nu, p)
  | m + 1, i, nu, p => if i < nofW w then (if tkS tb tn p = 2 ∧ insN W H nu w i (tkV tb tn p) = true then nusF tb tn W H w m (i + 1) (upZ nu i (tkV tb tn p)) (tkE tb tn p) else (tkF tb tn p, nu, p)) else (-1, nu, p)
/-- an item at p (the token there isn't the end): the fault's place or -1; the draft, the words told, the place behind -/
def itmF (tb : Int → Int) (tn : Int) (Z : DT) (it m p : Int) : Int × DT × Int × Int :=
  if tkS tb tn p = 1 ∧ mayS it m (tkV tb tn p) = true then
    (if 0 ≤ (nusF tb tn Z.1 Z.2.1 (tkV tb tn p) 5 0 (fun _ => 0) (tkE tb tn p)).1 then ((nusF tb tn Z.1 Z.2.1 (tkV tb tn p) 5 0 (fun _ => 0) (tkE tb tn p)).1, Z, m, p)
     else if tkS tb tn (nusF tb tn Z.1 Z.2.1 (tkV tb tn p) 5 0 (fun _ => 0) (tkE tb tn p)).2.2 = 3 then (-1, telF Z (nusF tb tn Z.1 Z.2.1 (tkV tb tn p) 5 0 (fun _ => 0) (tkE tb tn p)).2.1 (tkV tb tn p), mskO m (tkV tb tn p), tkE tb tn (nusF tb tn Z.1 Z.2.1 (tkV tb tn p) 5 0 (fun _ => 0) (tkE tb tn p)).2.2)
     else (tkF tb tn (nusF tb tn Z.1 Z.2.1 (tkV tb tn p) 5 0 (fun _ => 0) (tkE tb tn p)).2.2, Z, m, p))
  else (tkF tb tn p, Z, m, p)
/-- all items: the answer, the draft -/
def tabF (tb : Int → Int) (tn : Int) : Nat → DT → Int → Int → Int → Int × DT
  | 0, Z, it, _, _ => (it, Z)
  | n + 1, Z, it, m, p => if tkS tb tn p = 0 then (it, Z) else if 0 ≤ (itmF tb tn Z it m p).1 then (-10 - (itmF tb tn Z it m p).1, Z) else tabF tb tn n (itmF tb tn Z it m p).2.1 (it + 1) (itmF tb tn Z it m p).2.2.1 (itmF tb tn Z it m p).2.2.2
theorem insN_cong {W H : Int} {nu nv : Int → Int} {w i v : Int} (hi : 0 ≤ i) (h : ∀ j : Int, 0 ≤ j → j < i → nu j = nv j) : insN W H nu w i v = insN W H nv w i v := by
  unfold insN
  by_cases h0 : w = 0
  · rw [if_pos h0, if_pos h0]
  · rw [if_neg h0, if_neg h0]
    by_cases h4 : w = 4
    · rw [if_pos h4, if_pos h4]
    · rw [if_neg h4, if_neg h4]
      by_cases i0 : i = 0
      · rw [if_pos i0, if_pos i0]
      · rw [if_neg i0, if_neg i0]
        by_cases i1 : i = 1
        · rw [if_pos i1, if_pos i1]
        · rw [if_neg i1, if_neg i1, h 0 (by omega) (by omega), h 1 (by omega) (by omega)]
theorem telF_cong {Z : DT} {nu nv : Int → Int} {w : Int} (hw : 0 ≤ w ∧ w < 6) (h : ∀ j : Int, 0 ≤ j → j < nofW w → nu j = nv j) : telF Z nu w = telF Z nv w := by
  obtain ⟨W, H, g, bl, sc, sd, no, tu, be, sp⟩ := Z
  have hn : nofW w = if w = 0 ∨ w = 3 then 2 else if w = 5 then 3 else 4 := rfl
  have e0 := h 0 (by omega) (by omega)
  have e1 := h 1 (by omega) (by omega)
  simp only [telF]
  by_cases h0 : w = 0
  · rw [if_pos h0, if_pos h0, e0, e1]
  · rw [if_neg h0, if_neg h0]
    by_cases h1 : w = 1 ∨ w = 2
    · rw [if_pos h1, if_pos h1, e0, e1, h 2 (by omega) (by omega), h 3 (by omega) (by omega)]
    · rw [if_neg h1, if_neg h1]
      by_cases h3 : w = 3
      · rw [if_pos h3, if_pos h3, e0, e1]
      · rw [if_neg h3, if_neg h3]
        by_cases h4 : w = 4
        · rw [if_pos h4, if_pos h4, e0, e1, h 2 (by omega) (by omega), h 3 (by omega) (by omega)]
        · rw [if_neg h4, if_neg h4, e0, e1, h 2 (by omega) (by omega)]
theorem if_iff {P Q : Prop} [Decidable P] [Decidable Q] {a b : Int} (h : P ↔ Q) : (if P then a else b) = (if Q then a else b) := by
  by_cases q : P
  · rw [if_pos q, if_pos (h.mp q)]
  · rw [if_neg q, if_neg (fun q2 => q (h.mpr q2))]
/-- laying, row by row: rows below r done, of the row r the columns below c -/
abbrev layP (W : Int) (g g9 : Int → Int) (kd9 x y a r c : Int) : Prop := ∀ k : Int, g9 k = if (y ≤ k / W ∧ k / W < r ∧ x ≤ k % W ∧ k % W < x + a) ∨ (k / W = r ∧ x ≤ k % W ∧ k % W < c) then (if kd9 = 1 ∨ g k = 0 then kd9 else g k) else g k
theorem layP_0 {W : Int} {g : Int → Int} {kd9 x y a : Int} : layP W g g kd9 x y a y x := fun k => by rw [if_neg (by omega)]
theorem layP_row {W : Int} {g g9 : Int → Int} {kd9 x y a r c : Int} (hr : y ≤ r) (hc : c = x + a) (h : layP W g g9 kd9 x y a r c) : layP W g g9 kd9 x y a (r + 1) x := fun k => by
  rw [h k]
  exact if_iff (by omega)
theorem layP_set {W : Int} {g g9 : Int → Int} {kd9 x y a r c : Int} (hW : 0 < W) (hc : x ≤ c ∧ 0 ≤ c ∧ c < W) (hk : kd9 = 1 ∨ g9 (W * r + c) = 0) (h : layP W g g9 kd9 x y a r c) : layP W g (upZ g9 (W * r + c) kd9) kd9 x y a r (c + 1) := fun k => by
  have hm := cell_mod (W := W) (x := c) (y := r) ⟨hc.2.1, hc.2.2⟩
  have hd := cell_div (W := W) (x := c) (y := r) ⟨hc.2.1, hc.2.2⟩
  by_cases hk2 : k = W * r + c
  · subst hk2
    rw [upZ_s, hm, hd, if_pos (by omega)]
    have h9 := h (W * r + c)
    rw [hm, hd, if_neg (by omega)] at h9
    rw [h9] at hk
    rw [if_pos hk]
  · rw [upZ_n hk2, h k]
    have hs := Int.mul_ediv_add_emod k W
    have hne : ¬ (k / W = r ∧ k % W = c) := fun q => hk2 (by rw [q.1, q.2] at hs; exact hs.symm)
    exact if_iff (by omega)
theorem layP_no {W : Int} {g g9 : Int → Int} {kd9 x y a r c : Int} (hW : 0 < W) (hc : x ≤ c ∧ 0 ≤ c ∧ c < W) (hk : ¬ kd9 = 1) (hk2 : ¬ g9 (W * r + c) = 0) (h : layP W g g9 kd9 x y a r c) : layP W g g9 kd9 x y a r (c + 1) := fun k => by
  have hm := cell_mod (W := W) (x := c) (y := r) ⟨hc.2.1, hc.2.2⟩
  have hd := cell_div (W := W) (x := c) (y := r) ⟨hc.2.1, hc.2.2⟩
  by_cases hk3 : k = W * r + c
  · subst hk3
    have h9 := h (W * r + c)
    rw [hm, hd, if_neg (by omega)] at h9
    rw [h9, hm, hd, if_pos (by omega)]
    rw [h9] at hk2
    rw [if_neg (by omega)]
  · rw [h k]
    have hs := Int.mul_ediv_add_emod k W
    have hne : ¬ (k / W = r ∧ k % W = c) := fun q => hk3 (by rw [q.1, q.2] at hs; exact hs.symm)
    exact if_iff (by omega)
theorem layP_end {W : Int} {g g9 : Int → Int} {kd9 x y a b r : Int} (hr : r = y + b) (h : layP W g g9 kd9 x y a r x) : g9 = layF W g kd9 x y a b := by
  funext k
  rw [h k]
  unfold layF inR
  by_cases q : y ≤ k / W ∧ k / W < r ∧ x ≤ k % W ∧ k % W < x + a
  · rw [if_pos (Or.inl q)]
    by_cases q2 : kd9 = 1 ∨ g k = 0
    · rw [if_pos q2, if_pos ⟨decide_eq_true (by omega), q2⟩]
    · rw [if_neg q2, if_neg (fun q3 => q2 q3.2)]
  · rw [if_neg (by omega), if_neg (fun q3 => q (by have := of_decide_eq_true q3.1; omega))]
theorem layP_rng {W : Int} {g g9 : Int → Int} {kd9 x y a r c : Int} (hk : kd9 = 1 ∨ kd9 = 2) (hg : ∀ j : Int, 0 ≤ j → j < 256 → 0 ≤ g j ∧ g j ≤ 2) (h : layP W g g9 kd9 x y a r c) : ∀ j : Int, 0 ≤ j → j < 256 → 0 ≤ g9 j ∧ g9 j ≤ 2 := fun j h1 h2 => by
  rw [h j]
  have := hg j h1 h2
  by_cases q : (y ≤ j / W ∧ j / W < r ∧ x ≤ j % W ∧ j % W < x + a) ∨ (j / W = r ∧ x ≤ j % W ∧ j % W < c)
  · rw [if_pos q]
    by_cases q2 : kd9 = 1 ∨ g j = 0
    · rw [if_pos q2]; omega
    · rw [if_neg q2]; omega
  · rw [if_neg q]; omega
