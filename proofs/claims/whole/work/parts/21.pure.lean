/-! OUR PURE WORDS (39): the model's calls over the stands -/
theorem ce_pos {f : Int → Int} {q : Int} (hq : 0 ≤ q) : ∀ n : Nat, 1 ≤ ceN f q (n + 1)
  | 0 => by
    rw [ceN, ceN, if_pos ⟨by rw [itn]; exact hq, rfl⟩]; omega
  | n + 1 => by
    have := ce_pos (f := f) hq n
    rw [ceN]
    by_cases h : 0 ≤ itn f q (n + 1) ∧ snN f q (n + 1) (itn f q (n + 1) / 72) = false
    · rw [if_pos h]; omega
    · rw [if_neg h]; omega
theorem upZ_bk {g g9 : Int → Int} {i : Int} (h : ∀ j : Int, j ≠ i → g9 j = g j) : upZ g9 i (g i) = g := by
  funext j
  by_cases e : j = i
  · rw [e, upZ_s]
  · rw [upZ_n e]; exact h j e
theorem coN_pos {W H : Int} {g : Int → Int} {w c : Int} (h : kd W H g c = w) (hc : 0 ≤ c) : ∀ n : Nat, c < (n : Int) → 1 ≤ coN W H g w n
  | 0, hn => absurd hn (by omega)
  | n + 1, hn => by
    have hr := coN_rng W H g w n
    rw [coN]
    by_cases e : c = (n : Int)
    · rw [← e, if_pos h]; omega
    · have := coN_pos h hc n (by omega); omega
theorem rep_kd {W H : Int} {g wk : Int → Int} {q : Int} (hW : 3 ≤ W ∧ W ≤ 16) (hH : 3 ≤ H ∧ H ≤ 16) (h : RepI W H wk q) : kd W H g (W * wk 1 + wk 0) = g (W * wk 1 + wk 0) ∧ W * wk 1 + wk 0 < W * H := by
  obtain ⟨h1, h2, h3, h4, h5⟩ := h
  have hc := cell_rng hW hH h2 h3
  have hwh := wh_rng hW hH
  refine ⟨?_, hc.2⟩
  unfold kd
  rw [if_pos ⟨hc.1, hc.2, by omega⟩]
theorem lf_oc {oc f : Int → Int} {wd : Int → Bool} {q c t G : Int} {k : Nat} (h : OcI oc f q k) (hc : c = itn f q k / 72) (hc2 : 0 ≤ c ∧ c < 256) (hi : 0 ≤ itn f q k) (hw : wd c = decide (G = 0)) (ht : t = if oc c = 0 ∧ G = 0 then 1 else 0) : lfN f wd q (k + 1) = lfN f wd q k + t := by
  have hs := h c hc2.1 hc2.2
  rw [lfN, ht]
  by_cases w : oc c = 0 ∧ G = 0
  · have hf : snN f q k c = false := by
      cases u : snN f q k c with
      | false => rfl
      | true => have := hs.2.mpr u; omega
    rw [if_pos w, if_pos ⟨hi, by rw [← hc, hw]; exact decide_eq_true w.2, by rw [← hc]; exact hf⟩]
  · rw [if_neg w, if_neg (fun u => w ?_)]
    rw [← hc, hw] at u
    refine ⟨?_, of_decide_eq_true u.2.1⟩
    rcases hs.1 with v | v
    · exact v
    · have := hs.2.mp v; rw [this] at u; exact absurd u.2.2 (by decide)
theorem isSt_mA {W H : Int} {g : Int → Int} (hW : 3 ≤ W ∧ W ≤ 16) (hH : 3 ≤ H ∧ H ≤ 16) (x y d : Int) : isSt W H g x y d = decide (mA W H g x y = 0 ∧ 0 ≤ d ∧ d ≤ 7) := by
  unfold isSt celF mA
  by_cases h : inT W H x y = true
  · have hc := inT_cell hW hH h
    have hwh := wh_rng hW hH
    rw [if_pos h, if_pos h]
    unfold kd
    rw [if_pos ⟨hc.1, hc.2, by omega⟩]
    exact decide_eq_decide.mpr ⟨fun w => ⟨w.2, w.1⟩, fun w => ⟨w.2, w.1⟩⟩
  · rw [if_neg h, if_neg h, decide_eq_false (by omega), decide_eq_false (by omega)]
theorem isSt_rep {W H x y d : Int} {g wk : Int → Int} (hW : 3 ≤ W ∧ W ≤ 16) (hH : 3 ≤ H ∧ H ≤ 16) (h : mA W H g x y = 0 ∧ 0 ≤ d ∧ d ≤ 7) (h0 : wk 0 = x) (h1 : wk 1 = y) (h2 : wk 2 = d) (h3 : wk 3 = 0) : RepI W H wk (((W * y + x) * 8 + d) * 9 + 0) := by
  have hin : inT W H x y = true := by
    cases c : inT W H x y with
    | true => rfl
    | false => have w := h.1; unfold mA at w; rw [if_neg (by rw [c]; decide)] at w; exact absurd w (by decide)
  have hxy := of_decide_eq_true hin
  rw [RepI, h0, h1, h2, h3]
  exact ⟨rfl, by omega, by omega, by omega, by omega⟩
theorem rep_same {W H : Int} {wk ot : Int → Int} {q r : Int} (hW : 3 ≤ W ∧ W ≤ 16) (hH : 3 ≤ H ∧ H ≤ 16) (h : RepI W H wk q) (h2 : RepI W H ot r) : (wk 0 = ot 0 ∧ wk 1 = ot 1) ↔ q / 72 = r / 72 := by
  have a := (rep_cell hW hH h).1
  have b := (rep_cell hW hH h2).1
  obtain ⟨_, h3, _⟩ := h
  obtain ⟨_, h4, _⟩ := h2
  rw [← a, ← b]
  constructor
  · intro w; rw [w.1, w.2]
  · intro w
    have m1 := cell_mod (W := W) (y := wk 1) h3
    have m2 := cell_mod (W := W) (y := ot 1) h4
    have d1 := cell_div (W := W) (y := wk 1) h3
    have d2 := cell_div (W := W) (y := ot 1) h4
    rw [w, m2] at m1
    rw [w, d2] at d1
    exact ⟨m1.symm, d1.symm⟩
theorem me_fall {f : Int → Int} {m : Nat} {q r k K : Int} (h : meF f m q r k = K) (hm : 0 < m) (hs : ¬ (q < 0 ∨ r < 0)) (hc : ¬ q / 72 = r / 72) (hf : f q < 0 ∨ f r < 0) : K = -9 := me_out (me_go h hm hs hc) (Or.inr hf)
theorem hit_not {f : Int → Int} {bl q : Int} {k : Nat} (h : hitN f bl q k = false) : ¬ (0 ≤ itn f q k ∧ itn f q k / 72 = bl) := fun w => by
  rw [(hit_iff f bl q k).mpr ⟨k, Nat.le_refl _, w⟩] at h; exact absurd h (by decide)
theorem hit_s {f : Int → Int} {bl q v : Int} {k : Nat} (h : hitN f bl q k = false) (hv : v = if 0 ≤ itn f q (k + 1) ∧ itn f q (k + 1) / 72 = bl then 1 else 0) : v = bI (hitN f bl q (k + 1)) := by
  rw [hitN, h, Bool.false_or, hv]
  by_cases w : 0 ≤ itn f q (k + 1) ∧ itn f q (k + 1) / 72 = bl
  · rw [if_pos w, decide_eq_true w]; rfl
  · rw [if_neg w, decide_eq_false w]; rfl
theorem hit_0 {f : Int → Int} {bl q c v : Int} (hc : c = q / 72) (hq : 0 ≤ q) (hv : v = if c = bl then 1 else 0) : v = bI (hitN f bl q 0) := by
  rw [hitN, itn, hv]
  by_cases w : c = bl
  · rw [if_pos w, decide_eq_true ⟨hq, by omega⟩]; rfl
  · rw [if_neg w, decide_eq_false (by omega)]; rfl
theorem hit_mono {f : Int → Int} {bl q : Int} {k n : Nat} (h : hitN f bl q k = true) (hk : k ≤ n) : hitN f bl q n = true := by
  obtain ⟨i, h1, h2⟩ := (hit_iff f bl q k).mp h
  exact (hit_iff f bl q n).mpr ⟨i, by omega, h2⟩
theorem hit_out {f : Int → Int} {bl q : Int} {k n : Nat} (hf : f (-1) = -1) (h : itn f q k = -1) (hk : k ≤ n) : hitN f bl q n = hitN f bl q k := by
  cases c : hitN f bl q k with
  | true => exact hit_mono c hk
  | false =>
    cases d : hitN f bl q n with
    | false => rfl
    | true =>
      obtain ⟨i, h1, h2⟩ := (hit_iff f bl q n).mp d
      by_cases e : i ≤ k
      · rw [(hit_iff f bl q k).mpr ⟨i, e, h2⟩] at c; exact c
      · have ho := sn_out hf h (i - k)
        rw [show k + (i - k) = i by omega] at ho
        omega
theorem bI_01 (b : Bool) : 0 ≤ bI b ∧ bI b ≤ 1 := by cases b <;> decide
theorem bO_t {b : Bool} (h : ¬ bI b = 0) : b = true := by cases b with | true => rfl | false => exact absurd rfl h
theorem bO_f {b : Bool} (h : bI b = 0) : b = false := by cases b with | false => rfl | true => exact absurd h (by decide)
theorem rg_none {f : Int → Int} {wd : Int → Bool} {bl : Int} {n : Nat} (h : bl < 0) : ∀ k : Nat, rgN f wd bl n k = 0
  | 0 => rfl
  | k + 1 => by
    rw [rgN, rg_none h k, if_neg]
    · rfl
    · intro w
      obtain ⟨i, h1, h2⟩ := (hit_iff f bl _ n).mp w.2
      omega
theorem rg_no {f : Int → Int} {wd : Int → Bool} {bl m : Int} {n k : Nat} (h : m = rgN f wd bl n k) (hw : wd ((k : Int) / 8) = false) : m + 0 = rgN f wd bl n (k + 1) := by
  rw [rgN, h, if_neg (fun w => by rw [hw] at w; exact absurd w.1 (by decide))]
theorem rg_hit {f : Int → Int} {wd : Int → Bool} {bl m t : Int} {n k : Nat} (h : m = rgN f wd bl n k) (hw : wd ((k : Int) / 8) = true) (ht : t = if hitN f bl (((k : Int) / 8 * 8 + (k : Int) % 8) * 9 + 0) n = false then 0 else 1) : m + t = rgN f wd bl n (k + 1) := by
  rw [rgN, h, ht]
  cases c : hitN f bl (((k : Int) / 8 * 8 + (k : Int) % 8) * 9 + 0) n with
  | true => rw [if_neg (by decide), if_pos ⟨hw, rfl⟩]
  | false => rw [if_pos rfl, if_neg (fun w => absurd w.2 (by decide))]
theorem start_of {W H k : Int} {g wk : Int → Int} (hW : 3 ≤ W ∧ W ≤ 16) (hH : 3 ≤ H ∧ H ≤ 16) (hk : 0 ≤ k ∧ k < 8 * (W * H)) (h0 : wk 0 = k / 8 % W) (h1 : wk 1 = k / 8 / W) (h2 : wk 2 = k % 8) (h3 : wk 3 = 0) : RepI W H wk ((k / 8 * 8 + k % 8) * 9 + 0) ∧ mA W H g (k / 8 % W) (k / 8 / W) = kd W H g (k / 8) := by
  have hwh := wh_rng hW hH
  have hc := cell_split (W := W) (H := H) (c := k / 8) hW (by generalize W * H = t at *; omega)
  constructor
  · rw [RepI, h0, h1, h2, h3]
    unfold stdX
    rw [hc.2.2.2.2]
    exact ⟨rfl, ⟨hc.1, hc.2.1⟩, ⟨hc.2.2.1, hc.2.2.2.1⟩, by omega, by omega⟩
  · have hin : inT W H (k / 8 % W) (k / 8 / W) = true := decide_eq_true ⟨hc.1, hc.2.1, hc.2.2.1, hc.2.2.2.1⟩
    unfold mA kd
    rw [if_pos hin, hc.2.2.2.2, if_pos (by generalize W * H = t at *; omega)]
theorem wd_of {W H c : Int} {g : Int → Int} (hW : 3 ≤ W ∧ W ≤ 16) (hH : 3 ≤ H ∧ H ≤ 16) (hc : 0 ≤ c ∧ c < W * H) : isWd W H g c = mW W H g (c % W) (c / W) := by
  have hs := cell_split (W := W) (H := H) (c := c) hW hc
  have hin : inT W H (c % W) (c / W) = true := decide_eq_true ⟨hs.1, hs.2.1, hs.2.2.1, hs.2.2.2.1⟩
  rw [← mW_wd hW hH]
  unfold celX
  rw [if_pos hin, hs.2.2.2.2]
theorem ft_s {f tr : Int → Int} {a : Bool} {q i v : Int} {k : Nat} (h : (a && ftN f tr q (k + 1)) = true) (hi : i = (k : Int) + 1) (hv : v = if 0 ≤ itn f q (k + 1) ∧ itn f q (k + 1) / 72 = tr i then 1 else 0) : v = bI (a && ftN f tr q (k + 1 + 1)) := by
  rw [Bool.and_eq_true] at h
  rw [ftN, h.1, h.2, show ((k + 1 : Nat) : Int) = i by omega, hv, Bool.true_and, Bool.true_and]
  by_cases w : 0 ≤ itn f q (k + 1) ∧ itn f q (k + 1) / 72 = tr i
  · rw [if_pos w, decide_eq_true w]; rfl
  · rw [if_neg w, decide_eq_false w]; rfl
theorem ft_end {f tr : Int → Int} {a : Bool} {q v : Int} {k m : Nat} (h : v = bI (a && ftN f tr q (k + 1))) (hm : k + 1 = m ∨ v = 0 ∧ k + 1 ≤ m) : v = bI (a && ftN f tr q m) := by
  rcases hm with w | ⟨w, w2⟩
  · rw [← w]; exact h
  · have h2 := bO_f (h.symm.trans w)
    rw [w]
    rw [Bool.and_eq_false_iff] at h2
    rcases h2 with h3 | h3
    · rw [h3, Bool.false_and]; rfl
    · have := ftN_f h3 (m - (k + 1))
      rw [show k + 1 + (m - (k + 1)) = m by omega] at this
      rw [this, Bool.and_false]; rfl
theorem fiN_z (F : Int → Int → Int → Bool) : ∀ k : Nat, ((fiN F k).1 = 0 ↔ (fiN F k).2 = -9) ∧ 0 ≤ (fiN F k).1
  | 0 => ⟨⟨fun _ => rfl, fun _ => rfl⟩, Int.le_refl _⟩
  | k + 1 => by
    have ih := fiN_z F k
    rw [fiN]
    by_cases c : F ((k : Int) / 80 + 1) ((k : Int) / 8 % 10) ((k : Int) % 8) = true
    · rw [if_pos c]
      dsimp only
      by_cases e : (fiN F k).2 = -9
      · rw [if_pos e]; omega
      · rw [if_neg e]; omega
    · rw [if_neg c]; exact ih
theorem fi_all {F : Int → Int → Int → Bool} (h : ∀ t b d : Int, F t b d = true) : ∀ k : Nat, (fiN F k).1 = (k : Int) ∧ (fiN F k).2 = if k = 0 then -9 else 100
  | 0 => ⟨rfl, rfl⟩
  | k + 1 => by
    have ih := fi_all h k
    rw [fiN, if_pos (h _ _ _)]
    dsimp only
    rw [ih.1, ih.2]
    by_cases e : k = 0
    · subst e; decide
    · rw [if_neg e, if_neg (by decide), if_neg (by omega)]; omega
theorem sshr_and {w s k : Nat} (b : BitVec w) (h : s + k ≤ w) : b.sshiftRight s &&& BitVec.ofNat w (2 ^ k - 1) = b >>> s &&& BitVec.ofNat w (2 ^ k - 1) := by
  apply BitVec.eq_of_getLsbD_eq
  intro i hi
  rw [BitVec.getLsbD_and, BitVec.getLsbD_and, BitVec.getLsbD_sshiftRight, BitVec.getLsbD_ushiftRight, BitVec.getLsbD_ofNat, Nat.testBit_two_pow_sub_one]
  by_cases c : i < k
  · rw [decide_eq_false (show ¬ w ≤ i by omega), if_pos (show s + i < w by omega), Bool.not_false, Bool.true_and]
  · rw [decide_eq_false c, Bool.and_false, Bool.and_false, Bool.and_false]
theorem sshr_nat {w s k : Nat} (b : BitVec w) (h : s + k ≤ w) (hk : k < w) : (b.sshiftRight s &&& BitVec.ofNat w (2 ^ k - 1)).toNat = b.toNat / 2 ^ s % 2 ^ k := by
  rw [sshr_and b h, BitVec.toNat_and, BitVec.toNat_ushiftRight, BitVec.toNat_ofNat, Nat.mod_eq_of_lt (a := 2 ^ k - 1) (by have h1 := Nat.pow_lt_pow_right (a := 2) (by decide) hk; have h2 := Nat.two_pow_pos k; omega), Nat.and_two_pow_sub_one_eq_mod, Nat.shiftRight_eq_div_pow]
theorem ishr16 (x : Int) : (iI x >>> (iI 16 &&& 31)) &&& iI 65535 = iI (x % 4294967296 / 65536) := by
  have e : ((iI 16 &&& 31 : Int32).toBitVec.smod 32).toNat = 16 := by first | rfl | decide
  apply Int32.toBitVec_inj.mp
  apply BitVec.eq_of_toNat_eq
  show ((BitVec.ofInt 32 x).sshiftRight ((iI 16 &&& 31 : Int32).toBitVec.smod 32).toNat &&& BitVec.ofNat 32 (2 ^ 16 - 1)).toNat = (BitVec.ofInt 32 (x % 4294967296 / 65536)).toNat
  rw [e, sshr_nat _ (by decide) (by decide), BitVec.toNat_ofInt, BitVec.toNat_ofInt]
  omega
theorem lshr255 {v i : Int} {n : Nat} (hi : i = (n : Int)) (hn : n ≤ 7) : (lI v >>> ((iI (8 * i)).toInt64 &&& 63)) &&& lI 255 = lI (byF v n) := by
  subst hi
  have e : (((iI (8 * (n : Int))).toInt64 &&& 63 : Int64).toBitVec.smod 64).toNat = 8 * n := by
    rcases (show n = 0 ∨ n = 1 ∨ n = 2 ∨ n = 3 ∨ n = 4 ∨ n = 5 ∨ n = 6 ∨ n = 7 by omega) with h | h | h | h | h | h | h | h <;> subst h <;> (first | rfl | decide)
  apply Int64.toBitVec_inj.mp
  apply BitVec.eq_of_toNat_eq
  show ((BitVec.ofInt 64 v).sshiftRight (((iI (8 * (n : Int))).toInt64 &&& 63 : Int64).toBitVec.smod 64).toNat &&& BitVec.ofNat 64 (2 ^ 8 - 1)).toNat = (BitVec.ofInt 64 (byF v n)).toNat
  rw [e, sshr_nat _ (by omega) (by decide), BitVec.toNat_ofInt, BitVec.toNat_ofInt]
  unfold byF
  rcases (show n = 0 ∨ n = 1 ∨ n = 2 ∨ n = 3 ∨ n = 4 ∨ n = 5 ∨ n = 6 ∨ n = 7 by omega) with h | h | h | h | h | h | h | h <;> subst h <;> (simp only [Nat.reducePow, Int.reducePow, Nat.reduceMul]; omega)
