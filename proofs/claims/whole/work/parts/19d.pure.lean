/-! OUR PURE WORDS (27): answers about all starts; what is covered -/
def stsF (f : Int → Int) (W H : Int) (g : Int → Int) (w : Int) : Int := if w = 0 then stN (wdF W H g) (8 * (W * H).toNat) else if w = 1 then (svT f W H g).2.1 else if w = 2 then (svT f W H g).2.2.1 else if w = 3 then (svT f W H g).2.2.2.1 else (svT f W H g).2.2.2.2.1
def comF (f : Int → Int) (W H : Int) (g : Int → Int) : Int := if 0 < (svT f W H g).2.2.2.1 then lsF (svT f W H g).2.2.2.2.2 (W * H).toNat 0 else -9
theorem sn_out {f : Int → Int} (hf1 : f (-1) = -1) {q : Int} {k : Nat} (h : itn f q k = -1) : ∀ j : Nat, itn f q (k + j) = -1 := fun j => by rw [itn_add, h]; exact itn_out hf1 j
theorem ce_out {f : Int → Int} (hf1 : f (-1) = -1) {q : Int} {k : Nat} (h : itn f q k = -1) : ∀ j : Nat, ceN f q (k + j) = ceN f q k
  | 0 => rfl
  | j + 1 => by
    rw [← Nat.add_assoc, ceN, ce_out hf1 h j, if_neg (fun w => by rw [sn_out hf1 h j] at w; omega)]
    omega
theorem itn_rng {f : Int → Int} {q N : Int} (hF : ∀ q : Int, 0 ≤ q → q < N → -1 ≤ f q ∧ f q < N) {k : Nat} (h : 0 ≤ itn f q k ∧ itn f q k < N) : -1 ≤ itn f q (k + 1) ∧ itn f q (k + 1) < N := by rw [itn]; exact hF _ h.1 h.2
