/-! OUR PURE WORDS (44): the model's draft -/
def hO (m : Int) : Int := if m % 2 = 1 then 1 else m
def orB (m w : Int) : Int := if w = 1 then (if m % 2 = 1 then m else m + 1) else (if 2 ≤ m then m else m + 2)
theorem iI_orB {m w : Int} (hm : 0 ≤ m ∧ m ≤ 3) (hw : w = 1 ∨ w = 2) : iI m ||| iI w = iI (orB m w) := by
  rcases (show m = 0 ∨ m = 1 ∨ m = 2 ∨ m = 3 by omega) with h | h | h | h <;> rcases hw with h2 | h2 <;> subst h <;> subst h2 <;> (first | rfl | decide)
theorem orB_rng {m w : Int} (hm : 0 ≤ m ∧ m ≤ 3) (hw : w = 1 ∨ w = 2) : 0 ≤ orB m w ∧ orB m w ≤ 3 := by unfold orB; omega
theorem iand1 (x : Int) : iI x &&& iI 1 = iI (x % 2) := by
  apply Int32.toBitVec_inj.mp
  apply BitVec.eq_of_toNat_eq
  show ((BitVec.ofInt 32 x) &&& (BitVec.ofInt 32 1)).toNat = (BitVec.ofInt 32 (x % 2)).toNat
  rw [BitVec.toNat_and, BitVec.toNat_ofInt, BitVec.toNat_ofInt, BitVec.toNat_ofInt, show ((1 : Int) % ((2 ^ 32 : Nat) : Int)).toNat = 2 ^ 1 - 1 from rfl, Nat.and_two_pow_sub_one_eq_mod]
  omega
theorem hO_or {m w : Int} (hm : 0 ≤ m ∧ m ≤ 3) (hw : w = 1 ∨ w = 2) : hO (orB m w) = if w = 1 ∨ hO m = 0 then w else hO m := by
  rcases (show m = 0 ∨ m = 1 ∨ m = 2 ∨ m = 3 by omega) with h | h | h | h <;> rcases hw with h2 | h2 <;> subst h <;> subst h2 <;> decide
theorem mayS_iff (it m w : Int) : mayS it m w = true ↔ ((w = 0 ∧ it = 0) ∨ w = 1 ∨ w = 2 ∨ (¬ w = 0 ∧ ¬ w = 1 ∧ ¬ w = 2 ∧ mskT m w = 0)) := by
  unfold mayS
  by_cases h0 : w = 0
  · rw [if_pos h0, decide_eq_true_iff]; omega
  · rw [if_neg h0]
    by_cases h1 : w = 1 ∨ w = 2
    · rw [if_pos h1]; exact ⟨fun _ => by omega, fun _ => rfl⟩
    · rw [if_neg h1, decide_eq_true_iff]; omega
abbrev DrM (td gd : Int → Int) (Z : DT) : Prop := td 9 = Z.1 ∧ td 10 = Z.2.1 ∧ (∀ c : Int, 0 ≤ c → c < 256 → (0 ≤ gd (256 + c) ∧ gd (256 + c) ≤ 3) ∧ Z.2.2.1 c = hO (gd (256 + c))) ∧ td 15 = Z.2.2.2.1 ∧ td 16 = Z.2.2.2.2.1 ∧ td 17 = Z.2.2.2.2.2.1 ∧ td 11 = Z.2.2.2.2.2.2.1 ∧ td 12 = Z.2.2.2.2.2.2.2.1 ∧ td 13 = Z.2.2.2.2.2.2.2.2.1 ∧ td 14 = Z.2.2.2.2.2.2.2.2.2
abbrev NsR (tb : Int → Int) (tn W H w : Int) (K : Int × (Int → Int) × Int) (m : Nat) (i : Int) (nu : Int → Int) (fl p : Int) : Prop := (fl = -1 ∧ nusF tb tn W H w m i nu p = K) ∨ (0 ≤ fl ∧ K.1 = fl)
theorem nsR_s {tb : Int → Int} {tn W H w i fl p lo hi r f2 p2 : Int} {K : Int × (Int → Int) × Int} {m : Nat} {nu : Int → Int} (h : NsR tb tn W H w K (m + 1) i nu fl p) (hp : 0 ≤ p ∧ p ≤ tn) (hfl : fl ≤ tn) (hi2 : i < nofW w) (hin : fl = -1 → ∀ v : Int, 0 ≤ v → v < 1000 → (insN W H nu w i v = true ↔ lo ≤ v ∧ v ≤ hi)) (hr : r = (nuM tb tn fl p lo hi).1) (hf : f2 = (nuM tb tn fl p lo hi).2.1) (hq : p2 = (nuM tb tn fl p lo hi).2.2) :
    NsR tb tn W H w K m (i + 1) (upZ nu i r) f2 p2 ∧ (0 ≤ p2 ∧ p2 ≤ tn) ∧ (-1 ≤ f2 ∧ f2 ≤ tn) ∧ (0 ≤ r ∧ r < 1000) ∧ (f2 = -1 → lo ≤ r ∧ r ≤ hi ∧ fl = -1) ∧ (0 ≤ f2 → r = 0) := by
  have hr1 := tk_rng (tb := tb) hp
  rcases h with ⟨h1, h2⟩ | ⟨h1, h2⟩
  · have h0 : ¬ 0 ≤ fl := by omega
    rw [nusF, if_pos hi2] at h2
    by_cases c : tkS tb tn p = 2 ∧ lo ≤ tkV tb tn p ∧ tkV tb tn p ≤ hi
    · have hv := tkV_2 c.1
      rw [nuM_y h0 c] at hr hf hq
      dsimp only at hr hf hq
      rw [if_pos ⟨c.1, (hin h1 _ hv.1 hv.2).mpr c.2⟩] at h2
      refine ⟨Or.inl ⟨by omega, ?_⟩, by omega, by omega, by omega, fun _ => by omega, fun _ => by omega⟩
      rw [hr, hq]; exact h2
    · rw [nuM_n h0 c] at hr hf hq
      dsimp only at hr hf hq
      rw [if_neg (fun q => c ⟨q.1, (hin h1 _ (tkV_2 q.1).1 (tkV_2 q.1).2).mp q.2⟩)] at h2
      refine ⟨Or.inr ⟨by omega, ?_⟩, by omega, by omega, by omega, fun _ => by omega, fun _ => hr⟩
      rw [← h2, hf]
  · rw [nuM_w h1] at hr hf hq
    dsimp only at hr hf hq
    exact ⟨Or.inr ⟨by omega, by omega⟩, by omega, by omega, by omega, fun _ => by omega, fun _ => hr⟩
theorem nsR_e {tb : Int → Int} {tn W H w i fl p : Int} {K : Int × (Int → Int) × Int} {m : Nat} {nu : Int → Int} (h : NsR tb tn W H w K m i nu fl p) (hi : ¬ i < nofW w) : (fl = -1 ∧ K = (-1, nu, p)) ∨ (0 ≤ fl ∧ K.1 = fl) := by
  rcases h with ⟨h1, h2⟩ | h
  · refine Or.inl ⟨h1, ?_⟩
    cases m with
    | zero => rw [nusF] at h2; exact h2.symm
    | succ k => rw [nusF, if_neg hi] at h2; exact h2.symm
  · exact Or.inr h
/-- laying a rectangle cell by cell: those before the k-th -/
abbrev RcK (W x y a b k c : Int) : Prop := inR W x y a b c = true ∧ (c / W - y) * a + (c % W - x) < k
theorem rck_0 {W x y a b c : Int} (ha : 0 ≤ a) : ¬ RcK W x y a b 0 c := fun w => by
  have h := of_decide_eq_true w.1
  have h2 := Int.mul_nonneg (show 0 ≤ c / W - y by omega) ha
  have := w.2
  omega
theorem rck_at {W H x y a b k c0 : Int} (hW : 3 ≤ W ∧ W ≤ 16) (hH : 3 ≤ H ∧ H ≤ 16) (ha : 1 ≤ a) (hx : 0 ≤ x ∧ x + a ≤ W) (hy : 0 ≤ y ∧ y + b ≤ H) (hk : 0 ≤ k ∧ k < a * b) (hc : c0 = W * (y + k / a) + (x + k % a)) : (0 ≤ c0 ∧ c0 < W * H) ∧ RcK W x y a b (k + 1) c0 ∧ ¬ RcK W x y a b k c0 := by
  have h1 := Int.emod_nonneg k (show a ≠ 0 by omega)
  have h2 := Int.emod_lt_of_pos k (show 0 < a by omega)
  have h3 := Int.ediv_nonneg (a := k) (b := a) hk.1 (by omega)
  have h4 : k / a < b := Int.ediv_lt_of_lt_mul (by omega) (by rw [Int.mul_comm]; exact hk.2)
  have h5 := Int.mul_ediv_add_emod k a
  have hm := cell_mod (W := W) (x := x + k % a) (y := y + k / a) (by omega)
  have hd := cell_div (W := W) (x := x + k % a) (y := y + k / a) (by omega)
  have hr := cell_rng (x := x + k % a) (y := y + k / a) hW hH (by omega) (by omega)
  rw [← hc] at hm hd hr
  have e : (c0 / W - y) * a + (c0 % W - x) = k := by
    rw [hm, hd, show y + k / a - y = k / a by omega, show x + k % a - x = k % a by omega, Int.mul_comm]
    exact h5
  refine ⟨hr, ⟨decide_eq_true ?_, by omega⟩, fun w => by have := w.2; omega⟩
  rw [hm, hd]
  omega
theorem rck_ne {W x y a b k c : Int} (hW : 0 < W) (ha : 1 ≤ a) (hc : c ≠ W * (y + k / a) + (x + k % a)) : RcK W x y a b (k + 1) c ↔ RcK W x y a b k c := by
  constructor
  · intro w
    refine ⟨w.1, ?_⟩
    have h := of_decide_eq_true w.1
    have w2 := w.2
    by_cases e : (c / W - y) * a + (c % W - x) = k
    · refine absurd ?_ hc
      have hm := cell_mod (W := a) (x := c % W - x) (y := c / W - y) (by omega)
      have hd := cell_div (W := a) (x := c % W - x) (y := c / W - y) (by omega)
      rw [Int.mul_comm a, e] at hm hd
      rw [hm, hd, show y + (c / W - y) = c / W by omega, show x + (c % W - x) = c % W by omega]
      exact (Int.mul_ediv_add_emod c W).symm
    · omega
  · intro w
    exact ⟨w.1, by have := w.2; omega⟩
theorem rck_all {W x y a b c : Int} (ha : 1 ≤ a) : RcK W x y a b (a * b) c ↔ inR W x y a b c = true := by
  constructor
  · exact fun w => w.1
  · intro w
    refine ⟨w, ?_⟩
    have h := of_decide_eq_true w
    have h2 := Int.mul_le_mul_of_nonneg_right (show c / W - y ≤ b - 1 by omega) (show 0 ≤ a by omega)
    have h3 : (b - 1) * a = a * b - a := by rw [Int.sub_mul, Int.one_mul, Int.mul_comm]
    omega
theorem lay_eq {W x y a b w : Int} {g : Int → Int} {gd gd2 : Int → Int} (ha : 1 ≤ a) (hw : w = 1 ∨ w = 2) (hg : ∀ c : Int, 0 ≤ c → c < 256 → (0 ≤ gd (256 + c) ∧ gd (256 + c) ≤ 3) ∧ g c = hO (gd (256 + c))) (h : ∀ c : Int, 0 ≤ c → c < 256 → gd2 (256 + c) = if RcK W x y a b (a * b) c then orB (gd (256 + c)) w else gd (256 + c)) : ∀ c : Int, 0 ≤ c → c < 256 → (0 ≤ gd2 (256 + c) ∧ gd2 (256 + c) ≤ 3) ∧ layF W g w x y a b c = hO (gd2 (256 + c)) := fun c c1 c2 => by
  have e := h c c1 c2
  have q := hg c c1 c2
  unfold layF
  by_cases r : inR W x y a b c = true
  · rw [if_pos ((rck_all ha).mpr r)] at e
    rw [e]
    refine ⟨orB_rng q.1 hw, ?_⟩
    rw [hO_or q.1 hw, q.2]
    by_cases s : w = 1 ∨ hO (gd (256 + c)) = 0
    · rw [if_pos s, if_pos ⟨r, s⟩]
    · rw [if_neg s, if_neg (fun u => s u.2)]
  · rw [if_neg (fun u => r ((rck_all ha).mp u))] at e
    rw [e, if_neg (fun u => r u.1)]
    exact q
def drV (k : Int) : Int := if k < 2 then 8 else if k = 2 then 1 else if k = 3 then 3 else if k = 5 then 200 else if k = 6 then -9 else if k = 8 then 2 else 0
theorem nuM_fl {tb : Int → Int} {tn fl p lo hi : Int} (hp : 0 ≤ p ∧ p ≤ tn) (hf : -1 ≤ fl ∧ fl ≤ tn) : -1 ≤ (nuM tb tn fl p lo hi).2.1 ∧ (nuM tb tn fl p lo hi).2.1 ≤ tn := by
  have hr := tk_rng (tb := tb) hp
  by_cases h : 0 ≤ fl
  · rw [nuM_w h]; dsimp only; omega
  · by_cases h2 : tkS tb tn p = 2 ∧ lo ≤ tkV tb tn p ∧ tkV tb tn p ≤ hi
    · rw [nuM_y h h2]; dsimp only; omega
    · rw [nuM_n h h2]; dsimp only; omega
