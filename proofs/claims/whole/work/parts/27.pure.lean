/-! OUR PURE WORDS (45): items of the model's text -/
theorem ins_T (W H i v : Int) (nu : Int → Int) : insN W H nu 0 i v = true ↔ 3 ≤ v ∧ v ≤ 16 := by
  unfold insN; rw [if_pos rfl, decide_eq_true_iff]
theorem ins_X {W H w v : Int} {nu : Int → Int} (h0 : ¬ w = 0) (h4 : ¬ w = 4) (hv : 0 ≤ v) : insN W H nu w 0 v = true ↔ 0 ≤ v ∧ v ≤ W - 1 := by
  unfold insN; rw [if_neg h0, if_neg h4, if_pos rfl, decide_eq_true_iff]; omega
theorem ins_Y {W H w v : Int} {nu : Int → Int} (h0 : ¬ w = 0) (h4 : ¬ w = 4) (hv : 0 ≤ v) : insN W H nu w 1 v = true ↔ 0 ≤ v ∧ v ≤ H - 1 := by
  unfold insN; rw [if_neg h0, if_neg h4, if_neg (by decide), if_pos rfl, decide_eq_true_iff]; omega
theorem ins_A {W H w v x : Int} {nu : Int → Int} (h : w = 1 ∨ w = 2) (hx : nu 0 = x) : insN W H nu w 2 v = true ↔ 1 ≤ v ∧ v ≤ W - x := by
  unfold insN; rw [if_neg (by omega), if_neg (by omega), if_neg (by decide), if_neg (by decide), if_pos rfl, if_neg (by omega), decide_eq_true_iff, hx]; omega
theorem ins_B {W H w v y : Int} {nu : Int → Int} (h : w = 1 ∨ w = 2) (hy : nu 1 = y) : insN W H nu w 3 v = true ↔ 1 ≤ v ∧ v ≤ H - y := by
  unfold insN; rw [if_neg (by omega), if_neg (by omega), if_neg (by decide), if_neg (by decide), if_neg (by decide), decide_eq_true_iff, hy]; omega
theorem ins_S {W H w v : Int} {nu : Int → Int} (h : w = 5) (hv : 0 ≤ v) : insN W H nu w 2 v = true ↔ 0 ≤ v ∧ v ≤ 7 := by
  unfold insN; rw [if_neg (by omega), if_neg (by omega), if_neg (by decide), if_neg (by decide), if_pos rfl, if_pos h, decide_eq_true_iff]; omega
theorem ins_4 {W H w v i lo hi : Int} {nu : Int → Int} (h : w = 4) (hl : lo = if i < 2 then 1 else 0) (hh : hi = if i = 0 then 3 else if i = 1 then 7 else if i = 2 then 9 else 999) : insN W H nu w i v = true ↔ lo ≤ v ∧ v ≤ hi := by
  unfold insN; rw [if_neg (by omega), if_pos h, decide_eq_true_iff, hl, hh]
theorem tb_no {tb : Int → Int} {tn : Int} {n : Nat} {Z : DT} {it m p : Int} {K : Int × DT} (h : tabF tb tn n Z it m p = K) (hn : 0 < n) (hp : 0 ≤ p ∧ p ≤ tn) (hs : ¬ tkS tb tn p = 0) (hm : ¬ (tkS tb tn p = 1 ∧ mayS it m (tkV tb tn p) = true)) : K.1 = -10 - tkF tb tn p := by
  have hr := tk_rng (tb := tb) hp
  have e := itm_no (Z := Z) hm
  have := tab_fail h hn hs (by rw [e]; dsimp only; omega)
  rw [this, e]
theorem tb_fail {tb : Int → Int} {tn : Int} {n : Nat} {Z : DT} {it m p : Int} {K : Int × DT} (h : tabF tb tn n Z it m p = K) (hn : 0 < n) (hs : ¬ tkS tb tn p = 0) (hm : tkS tb tn p = 1 ∧ mayS it m (tkV tb tn p) = true) {f : Int} (hK : (nusF tb tn Z.1 Z.2.1 (tkV tb tn p) 5 0 (fun _ => 0) (tkE tb tn p)).1 = f) (hf : 0 ≤ f) : K.1 = -10 - f := by
  have e := itm_fail (Z := Z) hm (f := f) (p9 := (nusF tb tn Z.1 Z.2.1 (tkV tb tn p) 5 0 (fun _ => 0) (tkE tb tn p)).2.2) (nu := (nusF tb tn Z.1 Z.2.1 (tkV tb tn p) 5 0 (fun _ => 0) (tkE tb tn p)).2.1) (by rw [← hK]) hf
  have := tab_fail h hn hs (by rw [e]; exact hf)
  rw [this, e]
theorem tb_semi {tb : Int → Int} {tn : Int} {n : Nat} {Z : DT} {it m p : Int} {K : Int × DT} (h : tabF tb tn n Z it m p = K) (hn : 0 < n) (hs : ¬ tkS tb tn p = 0) (hm : tkS tb tn p = 1 ∧ mayS it m (tkV tb tn p) = true) {p9 : Int} {nu : Int → Int} (hp9 : 0 ≤ p9 ∧ p9 ≤ tn) (hK : nusF tb tn Z.1 Z.2.1 (tkV tb tn p) 5 0 (fun _ => 0) (tkE tb tn p) = (-1, nu, p9)) (hf : ¬ tkS tb tn p9 = 3) : K.1 = -10 - tkF tb tn p9 := by
  have hr := tk_rng (tb := tb) hp9
  have e := itm_semi (Z := Z) hm hK hf
  have := tab_fail h hn hs (by rw [e]; dsimp only; omega)
  rw [this, e]
theorem tb_ok {tb : Int → Int} {tn : Int} {n : Nat} {Z : DT} {it m p : Int} {K : Int × DT} (h : tabF tb tn n Z it m p = K) (hn : 0 < n) (hp : 0 ≤ p ∧ p ≤ tn) (hs : ¬ tkS tb tn p = 0) (hm : tkS tb tn p = 1 ∧ mayS it m (tkV tb tn p) = true) {p9 : Int} {nu : Int → Int} (hK : nusF tb tn Z.1 Z.2.1 (tkV tb tn p) 5 0 (fun _ => 0) (tkE tb tn p) = (-1, nu, p9)) (hf : tkS tb tn p9 = 3) (hd : DrZ Z) (h0 : it = 0 → Z.2.2.2.1 = -9 ∧ Z.2.2.2.2.1 = 0) :
    tabF tb tn (n - 1) (telF Z nu (tkV tb tn p)) (it + 1) (mskO m (tkV tb tn p)) (tkE tb tn p9) = K ∧ DrZ (telF Z nu (tkV tb tn p)) ∧ p < tkE tb tn p9 ∧ tkE tb tn p9 ≤ tn := by
  have e := itm_ok (Z := Z) hm hK hf
  have hlt : (itmF tb tn Z it m p).1 < 0 := by rw [e]; dsimp only; omega
  have hg := tab_go h hn hs hlt
  have hD := itm_DrZ hp hd h0 hlt
  rw [e] at hg hD
  exact ⟨hg, hD⟩
/-- kept from arithmetic's eyes -/
def Hid (P : Prop) : Prop := P
theorem hid {P : Prop} (h : P) : Hid P := h
theorem unh {P : Prop} (h : Hid P) : P := h
