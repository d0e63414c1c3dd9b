/-! OUR PURE WORDS (25): the answers of the small calls -/
def celF (W H : Int) (g : Int → Int) (x y : Int) : Int := if inT W H x y = true then kd W H g (W * y + x) else -1
def isSt (W H : Int) (g : Int → Int) (x y d : Int) : Bool := decide ((0 ≤ d ∧ d ≤ 7) ∧ celF W H g x y = 0)
def toldF (w W H no tu be sp bl sc sd : Int) : Int := if w = 0 then W else if w = 1 then H else if w = 2 then no else if w = 3 then tu else if w = 4 then be else if w = 5 then sp else if w = 6 then bl else if w = 7 then sc else if w = 8 then sd else -1
def nowF (w nk nd nb nsp st nst nmo ntu nri nla : Int) : Int := if w = 0 then nk else if w = 1 then nd else if w = 2 then nb else if w = 3 then nsp else if w = 4 then st else if w = 5 then nst else if w = 6 then nmo else if w = 7 then ntu else if w = 8 then nri else if w = 9 then nla else -1
theorem celF_rng {W H : Int} {g : Int → Int} (hg : ∀ k : Int, 0 ≤ k → k < 256 → 0 ≤ g k ∧ g k ≤ 2) (x y : Int) : -9 ≤ celF W H g x y ∧ celF W H g x y ≤ 2 := by
  unfold celF
  have := kd_rng (W := W) (H := H) hg (W * y + x)
  by_cases h : inT W H x y = true
  · rw [if_pos h]; omega
  · rw [if_neg h]; omega
theorem inT_cell {W H x y : Int} (hW : 3 ≤ W ∧ W ≤ 16) (hH : 3 ≤ H ∧ H ≤ 16) (h : inT W H x y = true) : 0 ≤ W * y + x ∧ W * y + x < W * H := by
  have h3 := of_decide_eq_true h
  exact cell_rng hW hH ⟨h3.1, h3.2.1⟩ ⟨h3.2.2.1, h3.2.2.2⟩
def cntF (w : Int) (W H : Int) (g : Int → Int) (tk km tn : Int) : Int := if 0 ≤ w ∧ w ≤ 2 then coN W H g w (W * H).toNat else if w = 3 then tk else if w = 4 then km else if w = 5 then tn else -1
/-- kinds of rates: the answer, what the trace grows by -/
def ratF (w nla ntu nd no nro nmo : Int) : Int × Int := if nla = -9 ∨ w < 0 ∨ 5 < w then (-1000000, 0) else if w = 0 then (ntu, 1) else if w = 1 then (ntu + nd, 11) else if w = 2 then (ntu + no, 101) else if w = 3 then (2 * (ntu + nd), 1011) else if w = 4 then (ntu + no + nro, 10101) else (ntu - nmo, 100001)
