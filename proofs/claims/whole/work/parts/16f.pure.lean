/-! OUR PURE WORDS (20): the fates -/
theorem mkW_hit {mk : Int → Int} {ba N s : Int} {M f : Int → Int} {n : Nat} (h : MkW mk ba N M f s n) (hr : 0 ≤ itn f s n ∧ itn f s n < N) (hg : ¬ gtI mk ba (itn f s n) = 0) : itn f s n < 0 ∨ M (itn f s n) ≠ 0 ∨ inN f s n (itn f s n) = true := by
  have e := h _ hr.1 hr.2
  cases hi : inN f s n (itn f s n) with
  | true => exact Or.inr (Or.inr rfl)
  | false =>
    rw [if_neg (by rw [hi]; decide)] at e
    exact Or.inr (Or.inl (fun w => hg (by rw [e, if_pos w])))
theorem mkW_no {mk : Int → Int} {ba N s : Int} {M f : Int → Int} {n : Nat} (h : MkW mk ba N M f s n) (hM : ∀ k : Int, 0 ≤ k → k < N → 0 ≤ M k ∧ M k ≤ 3) (hr : 0 ≤ itn f s n ∧ itn f s n < N) (hg : gtI mk ba (itn f s n) = 0) : M (itn f s n) = 0 ∧ inN f s n (itn f s n) = false := by
  have e := h _ hr.1 hr.2
  have m := hM _ hr.1 hr.2
  cases hi : inN f s n (itn f s n) with
  | true => rw [if_pos hi] at e; omega
  | false =>
    rw [if_neg (by rw [hi]; decide)] at e
    by_cases w : M (itn f s n) = 0
    · exact ⟨w, rfl⟩
    · rw [if_neg w] at e; omega
theorem fate_fall {f M : Int → Int} {s : Int} (h : itn f s (wlk f M s) < 0) : fateF f M s = 1 ∧ isRd f M s = false := ⟨by unfold fateF; rw [if_pos h], decide_eq_false (by omega)⟩
theorem fate_mark {f M : Int → Int} {s : Int} (h : ¬ itn f s (wlk f M s) < 0) (h2 : M (itn f s (wlk f M s)) ≠ 0) : fateF f M s = M (itn f s (wlk f M s)) ∧ isRd f M s = false := ⟨by unfold fateF; rw [if_neg h, if_pos h2], decide_eq_false (fun w => h2 w.2)⟩
theorem fate_rd {f M : Int → Int} {s : Int} (h : ¬ itn f s (wlk f M s) < 0) (h2 : M (itn f s (wlk f M s)) = 0) : fateF f M s = (if mvN f (itn f s (wlk f M s)) (lap f (itn f s (wlk f M s))) = 0 then 2 else 3) ∧ isRd f M s = true := ⟨by unfold fateF; rw [if_neg h, if_neg (fun w => w h2)], decide_eq_true ⟨by omega, h2⟩⟩
/-- what the class finds at a walk's end: 0 can't be, 1 its own, else a fate and one -/
theorem mkW_c {mk : Int → Int} {ba N s : Int} {M f : Int → Int} {n : Nat} (h : MkW mk ba N M f s n) (hM : ∀ k : Int, 0 ≤ k → k < N → 0 ≤ M k ∧ M k ≤ 3) (hr : 0 ≤ itn f s n ∧ itn f s n < N) (he : itn f s n < 0 ∨ M (itn f s n) ≠ 0 ∨ inN f s n (itn f s n) = true) (hW : ∀ i : Nat, i < n → M (itn f s i) = 0) :
    (gtI mk ba (itn f s n) = 1 ∧ M (itn f s n) = 0 ∧ inN f s n (itn f s n) = true) ∨ (gtI mk ba (itn f s n) = M (itn f s n) + 1 ∧ M (itn f s n) ≠ 0 ∧ 1 ≤ M (itn f s n) ∧ M (itn f s n) ≤ 3) := by
  have e := h _ hr.1 hr.2
  have m := hM _ hr.1 hr.2
  cases hi : inN f s n (itn f s n) with
  | true =>
    rw [if_pos hi] at e
    obtain ⟨j, hj, ej⟩ := (inN_iff f s n _).mp hi
    exact Or.inl ⟨e, by rw [← ej]; exact hW j hj, rfl⟩
  | false =>
    rw [if_neg (by rw [hi]; decide)] at e
    have w : M (itn f s n) ≠ 0 := he.elim (fun q => absurd q (by omega)) (fun q => q.elim id (fun q2 => by rw [hi] at q2; exact absurd q2 (by decide)))
    rw [if_neg w] at e
    exact Or.inr ⟨e, w, by omega, by omega⟩
theorem ar_rng {ir9 ir f : Int → Int} {ro q k : Int} {i : Nat} {al : Int → Bool} (h : ArI ir9 ir ro f q i) (hr : InRI ir ro al) (hk : 0 ≤ k ∧ k < 256) : 0 ≤ ir9 k ∧ ir9 k ≤ ro + 1 := by
  have e := h k hk.1 hk.2
  have r := (hr k hk.1 hk.2).1
  by_cases q2 : snN f q i k = true ∧ ir k = ro
  · rw [if_pos q2] at e; omega
  · rw [if_neg q2] at e; omega
theorem gt_rng {n : Int} {mk : Int → Int} {ba to i : Int} (h : MkI n mk ba to) (hi : 0 ≤ i ∧ i < n) : 0 ≤ gtI mk ba i ∧ gtI mk ba i ≤ to := by
  have q := h.2.2 i hi.1 hi.2
  have t := h.2.1
  unfold gtI
  by_cases w : 0 < mk i - ba
  · rw [if_pos w]; omega
  · rw [if_neg w]; omega
def wdF (W H : Int) (g : Int → Int) : Int → Bool := fun c => decide (kd W H g c = 0)
def svT (f : Int → Int) (W H : Int) (g : Int → Int) : SV := svN f (wdF W H g) (8 * (W * H).toNat)
theorem sv_skip {f : Int → Int} {wd : Int → Bool} {c : Nat} (h : wd (c : Int) = false) : ∀ e d : Nat, d + e = 8 → svN f wd (8 * c + 8) = svN f wd (8 * c + d) ∧ stN wd (8 * c + 8) = stN wd (8 * c + d)
  | 0, d, hd => by rw [show d = 8 by omega]; exact ⟨rfl, rfl⟩
  | e + 1, d, hd => by
    have ih := sv_skip (f := f) h e (d + 1) (by omega)
    have hc : ¬ wd (((8 * c + d : Nat) : Int) / 8) = true := by rw [show ((8 * c + d : Nat) : Int) / 8 = (c : Int) by omega, h]; decide
    rw [ih.1, ih.2, ← Nat.add_assoc, svN, stN, if_neg hc, if_neg hc]
    exact ⟨rfl, by omega⟩
abbrev SurI (f : Int → Int) (wd : Int → Bool) (N ba : Int) (k : Nat) (mk mc ir : Int → Int) (bc tc st fa tr ro lo : Int) : Prop :=
  MkI 18432 mk ba 4 ∧ MkI 256 mc bc tc ∧ MkS mk ba N (svN f wd k).1 ∧ st = stN wd k ∧ fa = (svN f wd k).2.1 ∧ tr = (svN f wd k).2.2.1 ∧ ro = (svN f wd k).2.2.2.1 ∧ lo = (svN f wd k).2.2.2.2.1 ∧ InRI ir ro (svN f wd k).2.2.2.2.2 ∧ (0 ≤ ro ∧ ro ≤ (k : Int)) ∧ (0 ≤ lo ∧ lo < 100000)
theorem sur_0 {f : Int → Int} {wd : Int → Bool} {N ba bc tc : Int} {mk mc ir : Int → Int} (hN : N ≤ 18432) (h1 : MkI 18432 mk ba 4) (h2 : ∀ j : Int, 0 ≤ j → j < 18432 → mk j ≤ ba) (h3 : MkI 256 mc bc tc) (h4 : ∀ c : Int, 0 ≤ c → c < 256 → ir c = 0) : SurI f wd N ba 0 mk mc ir bc tc 0 0 0 0 0 :=
  ⟨h1, h3, mkS_0 (fun j a b => h2 j a (by omega)), rfl, rfl, rfl, rfl, rfl, fun c a b => ⟨by rw [h4 c a b]; omega, fun _ => rfl, fun _ => h4 c a b⟩, by omega, by omega⟩
theorem sur_step {f : Int → Int} {wd : Int → Bool} {N ba bc tc st fa tr ro lo q bc2 tc2 fa2 tr2 ro2 lo2 : Int} {mk mc ir mk2 mc2 ir2 : Int → Int} {k : Nat} (h : SurI f wd N ba k mk mc ir bc tc st fa tr ro lo) (hw : wd ((k : Int) / 8) = true) (hq : q = ((k : Int) / 8 * 8 + (k : Int) % 8) * 9 + 0)
    (hj : MkI 18432 mk2 ba 4 ∧ MkI 256 mc2 bc2 tc2 ∧ MkS mk2 ba N (svS f ((svN f wd k).1, fa, tr, ro, lo, (svN f wd k).2.2.2.2.2) q).1 ∧ fa2 = (svS f ((svN f wd k).1, fa, tr, ro, lo, (svN f wd k).2.2.2.2.2) q).2.1 ∧ tr2 = (svS f ((svN f wd k).1, fa, tr, ro, lo, (svN f wd k).2.2.2.2.2) q).2.2.1 ∧ ro2 = (svS f ((svN f wd k).1, fa, tr, ro, lo, (svN f wd k).2.2.2.2.2) q).2.2.2.1 ∧ lo2 = (svS f ((svN f wd k).1, fa, tr, ro, lo, (svN f wd k).2.2.2.2.2) q).2.2.2.2.1 ∧ InRI ir2 ro2 (svS f ((svN f wd k).1, fa, tr, ro, lo, (svN f wd k).2.2.2.2.2) q).2.2.2.2.2 ∧ (ro ≤ ro2 ∧ ro2 ≤ ro + 1) ∧ (0 ≤ lo2 ∧ lo2 < 100000)) : SurI f wd N ba (k + 1) mk2 mc2 ir2 bc2 tc2 (st + 1) fa2 tr2 ro2 lo2 := by
  obtain ⟨_, _, _, h4, h5, h6, h7, h8, _, h10, _⟩ := h
  have e : ((svN f wd k).1, fa, tr, ro, lo, (svN f wd k).2.2.2.2.2) = svN f wd k := by rw [h5, h6, h7, h8]
  have e2 : svN f wd (k + 1) = svS f (svN f wd k) (((k : Int) / 8 * 8 + (k : Int) % 8) * 9 + 0) := by rw [svN, if_pos hw]
  have e3 : stN wd (k + 1) = stN wd k + 1 := by rw [stN, if_pos hw]
  rw [e, hq, ← e2] at hj
  obtain ⟨j1, j2, j3, j4, j5, j6, j7, j8, j9, j10⟩ := hj
  exact ⟨j1, j2, j3, by rw [e3, h4], j4, j5, j6, j7, j8, by omega, j10⟩
theorem sur_cast {f : Int → Int} {wd : Int → Bool} {N ba bc tc st fa tr ro lo : Int} {mk mc ir : Int → Int} {k k2 : Nat} (h : SurI f wd N ba k mk mc ir bc tc st fa tr ro lo) (h1 : svN f wd k2 = svN f wd k) (h2 : stN wd k2 = stN wd k) (h3 : k ≤ k2) : SurI f wd N ba k2 mk mc ir bc tc st fa tr ro lo := by
  unfold SurI
  rw [h1, h2]
  obtain ⟨a1, a2, a3, a4, a5, a6, a7, a8, a9, a10, a11⟩ := h
  exact ⟨a1, a2, a3, a4, a5, a6, a7, a8, a9, by omega, a11⟩
