/-! OUR PURE WORDS (41): the model's marks of stands -/
def mqI (q : Int) : Int := 80 * (q / 72) + 10 * (q / 9 % 8) + q % 9
def mqF (mm : Int → Int) : Int → Int := fun q => mm (mqI q)
theorem mqI_inj {a b : Int} : mqI a = mqI b ↔ a = b := by
  constructor
  · intro h
    unfold mqI at h
    have ha : a = 72 * (a / 72) + 9 * (a / 9 % 8) + a % 9 := by omega
    have hb : b = 72 * (b / 72) + 9 * (b / 9 % 8) + b % 9 := by omega
    have a1 : 0 ≤ a / 9 % 8 ∧ a / 9 % 8 < 8 := by omega
    have a2 : 0 ≤ a % 9 ∧ a % 9 < 9 := by omega
    have b1 : 0 ≤ b / 9 % 8 ∧ b / 9 % 8 < 8 := by omega
    have b2 : 0 ≤ b % 9 ∧ b % 9 < 9 := by omega
    generalize a / 72 = A at *
    generalize a / 9 % 8 = B at *
    generalize a % 9 = C at *
    generalize b / 72 = A2 at *
    generalize b / 9 % 8 = B2 at *
    generalize b % 9 = C2 at *
    omega
  · intro h; rw [h]
theorem mqF_up {mm : Int → Int} {q v : Int} : mqF (upZ mm (mqI q) v) = upZ (mqF mm) q v := by
  funext k
  show upZ mm (mqI q) v (mqI k) = upZ (mqF mm) q v k
  by_cases e : k = q
  · rw [e, upZ_s, upZ_s]
  · rw [upZ_n e, upZ_n (fun w => e (mqI_inj.mp w))]; rfl
theorem std_mq {W H : Int} {wk : Int → Int} {q : Int} (h : RepI W H wk q) : 80 * (W * wk 1 + wk 0) + 10 * wk 2 + wk 3 = mqI q := by
  obtain ⟨a1, _, _, a4, a5⟩ := h
  unfold stdX at a1
  unfold mqI
  generalize W * wk 1 + wk 0 = t at *
  omega
theorem gt0 {mk : Int → Int} {i : Int} (h : 0 ≤ mk i) : gtI mk 0 i = mk i := by
  unfold gtI
  by_cases w : 0 < mk i - 0
  · rw [if_pos w]; omega
  · rw [if_neg w]; omega
/-! fates -/
abbrev MsI (mm M : Int → Int) (N : Int) : Prop := ∀ q : Int, 0 ≤ q → q < N → (0 ≤ M q ∧ M q ≤ 3) ∧ mqF mm q = M q
abbrev MoW (mm M f : Int → Int) (N s k9 : Int) (n : Nat) : Prop := ∀ q : Int, 0 ≤ q → q < N → (0 ≤ M q ∧ M q ≤ 3) ∧ mqF mm q = if inN f s n q = true then -1 - k9 else M q
abbrev MoF (mm M f : Int → Int) (N s k9 : Int) (n : Nat) (e : Int) (i : Nat) : Prop := ∀ q : Int, 0 ≤ q → q < N → (0 ≤ M q ∧ M q ≤ 3) ∧ mqF mm q = if inN f s i q = true then e else if inN f s n q = true then -1 - k9 else M q
theorem mo_0 {mm M f : Int → Int} {N s k9 : Int} (h : MsI mm M N) : MoW mm M f N s k9 0 := fun q a b => ⟨(h q a b).1, by rw [if_neg (show ¬ inN f s 0 q = true by simp [inN])]; exact (h q a b).2⟩
theorem mo_step {mm M f : Int → Int} {N s k9 p : Int} {n : Nat} (h : MoW mm M f N s k9 n) (hp : p = itn f s n) : MoW (upZ mm (mqI p) (-1 - k9)) M f N s k9 (n + 1) := fun q a b => by
  refine ⟨(h q a b).1, ?_⟩
  rw [mqF_up]
  by_cases e : q = p
  · rw [e, upZ_s, if_pos ((inN_iff f s (n + 1) p).mpr ⟨n, by omega, hp.symm⟩)]
  · rw [upZ_n e, (h q a b).2, inN, decide_eq_false (fun w => e (w.symm.trans hp.symm)), Bool.or_false]
theorem mo_rng {mm M f : Int → Int} {N s k9 q : Int} {n : Nat} (h : MoW mm M f N s k9 n) (hk : 0 ≤ k9 ∧ k9 < 2048) (a : 0 ≤ q) (b : q < N) : -3000 ≤ mqF mm q ∧ mqF mm q ≤ 3 := by
  have e := h q a b
  by_cases c : inN f s n q = true
  · rw [if_pos c] at e; omega
  · rw [if_neg c] at e; omega
theorem mo_no {mm M f : Int → Int} {N s k9 q : Int} {n : Nat} (h : MoW mm M f N s k9 n) (hk : 0 ≤ k9 ∧ k9 < 2048) (a : 0 ≤ q) (b : q < N) (h0 : mqF mm q = 0) : M q = 0 ∧ inN f s n q = false := by
  have e := h q a b
  cases c : inN f s n q with
  | true => rw [if_pos c] at e; omega
  | false => rw [if_neg (by rw [c]; decide)] at e; exact ⟨by omega, rfl⟩
theorem mo_hit {mm M f : Int → Int} {N s k9 q : Int} {n : Nat} (h : MoW mm M f N s k9 n) (a : 0 ≤ q) (b : q < N) (h0 : ¬ mqF mm q = 0) : M q ≠ 0 ∨ inN f s n q = true := by
  have e := h q a b
  cases c : inN f s n q with
  | true => exact Or.inr rfl
  | false => rw [if_neg (by rw [c]; decide)] at e; exact Or.inl (by omega)
theorem mo_rd {mm M f : Int → Int} {N s k9 : Int} {n : Nat} (h : MoW mm M f N s k9 n) (hk : 0 ≤ k9 ∧ k9 < 2048) (hr : 0 ≤ itn f s n ∧ itn f s n < N) (hW : ∀ i : Nat, i < n → M (itn f s i) = 0) (h0 : mqF mm (itn f s n) = -1 - k9) : M (itn f s n) = 0 ∧ inN f s n (itn f s n) = true := by
  have e := h _ hr.1 hr.2
  cases c : inN f s n (itn f s n) with
  | true =>
    obtain ⟨j, hj, ej⟩ := (inN_iff f s n _).mp c
    exact ⟨by rw [← ej]; exact hW j hj, rfl⟩
  | false => rw [if_neg (by rw [c]; decide)] at e; omega
theorem mo_mk {mm M f : Int → Int} {N s k9 : Int} {n : Nat} (h : MoW mm M f N s k9 n) (hr : 0 ≤ itn f s n ∧ itn f s n < N) (h0 : ¬ mqF mm (itn f s n) = -1 - k9) (he : M (itn f s n) ≠ 0 ∨ inN f s n (itn f s n) = true) : M (itn f s n) ≠ 0 ∧ mqF mm (itn f s n) = M (itn f s n) ∧ 1 ≤ M (itn f s n) ∧ M (itn f s n) ≤ 3 := by
  have e := h _ hr.1 hr.2
  cases c : inN f s n (itn f s n) with
  | true => rw [if_pos c] at e; exact absurd e.2 h0
  | false =>
    rw [if_neg (by rw [c]; decide)] at e
    have := he.resolve_right (by rw [c]; decide)
    exact ⟨this, e.2, by omega, by omega⟩
theorem mof_0 {mm M f : Int → Int} {N s k9 e : Int} {n : Nat} (h : MoW mm M f N s k9 n) : MoF mm M f N s k9 n e 0 := fun q a b => ⟨(h q a b).1, by rw [if_neg (show ¬ inN f s 0 q = true by simp [inN])]; exact (h q a b).2⟩
theorem mof_step {mm M f : Int → Int} {N s k9 e p : Int} {n i : Nat} (h : MoF mm M f N s k9 n e i) (hp : p = itn f s i) : MoF (upZ mm (mqI p) e) M f N s k9 n e (i + 1) := fun q a b => by
  refine ⟨(h q a b).1, ?_⟩
  rw [mqF_up]
  by_cases c : q = p
  · rw [c, upZ_s, if_pos ((inN_iff f s (i + 1) p).mpr ⟨i, by omega, hp.symm⟩)]
  · rw [upZ_n c, (h q a b).2, inN, decide_eq_false (fun w => c (w.symm.trans hp.symm)), Bool.or_false]
theorem mof_end {mm M f : Int → Int} {N s k9 e : Int} {n : Nat} (h : MoF mm M f N s k9 n e n) (he : 1 ≤ e ∧ e ≤ 3) : MsI mm (fun k => if inN f s n k = true then e else M k) N := fun q a b => by
  have w := h q a b
  by_cases c : inN f s n q = true
  · simp only [c, if_true] at w ⊢
    exact ⟨by omega, w.2⟩
  · rw [if_neg c, if_neg c] at w
    simp only [c, if_false]
    exact w
theorem svs_no {f M : Int → Int} {fa tr ro lo s : Int} {al : Int → Bool} (h : isRd f M s = false) : (svS f (M, fa, tr, ro, lo, al) s).2.2.2.1 = ro ∧ (svS f (M, fa, tr, ro, lo, al) s).2.2.2.2.1 = lo ∧ (svS f (M, fa, tr, ro, lo, al) s).2.2.2.2.2 = al := by
  simp only [svS, h]
  exact ⟨rfl, rfl, rfl⟩
theorem svs_rd {f M : Int → Int} {fa tr ro lo s : Int} {al : Int → Bool} (h : isRd f M s = true) : (svS f (M, fa, tr, ro, lo, al) s).2.2.2.1 = ro + 1 ∧ (svS f (M, fa, tr, ro, lo, al) s).2.2.2.2.1 = (if lo < (lap f (itn f s (wlk f M s)) : Int) then (lap f (itn f s (wlk f M s)) : Int) else lo) ∧ (svS f (M, fa, tr, ro, lo, al) s).2.2.2.2.2 = (fun c => al c && snN f (itn f s (wlk f M s)) (lap f (itn f s (wlk f M s))) c) := by
  simp only [svS, h]
  exact ⟨rfl, rfl, rfl⟩
theorem inr_add {ir ir2 oc f : Int → Int} {ro q : Int} {p : Nat} {al : Int → Bool} (hr : InRI ir ro al) (ho : OcI oc f q p) (h : ∀ c : Int, 0 ≤ c → c < 256 → ir2 c = ir c + oc c) : InRI ir2 (ro + 1) (fun c => al c && snN f q p c) := fun c a b => by
  have e := h c a b
  have r := hr c a b
  have o := ho c a b
  refine ⟨by omega, fun w => ?_, fun w => ?_⟩
  · rw [Bool.and_eq_true]
    exact ⟨r.2.mp (by omega), o.2.mp (by omega)⟩
  · rw [Bool.and_eq_true] at w
    have w1 := r.2.mpr w.1
    have w2 := o.2.mpr w.2
    omega
theorem stN_co {W H : Int} {g : Int → Int} : ∀ n : Nat, stN (wdF W H g) (8 * n) = 8 * coN W H g 0 n
  | 0 => rfl
  | n + 1 => by
    have ih := stN_co (W := W) (H := H) (g := g) n
    have e : ∀ j : Nat, j < 8 → stN (wdF W H g) (8 * n + (j + 1)) = stN (wdF W H g) (8 * n + j) + if kd W H g (n : Int) = 0 then 1 else 0 := fun j hj => by
      rw [← Nat.add_assoc, stN, show ((8 * n + j : Nat) : Int) / 8 = (n : Int) by omega]
      unfold wdF
      by_cases c : kd W H g (n : Int) = 0
      · rw [if_pos (decide_eq_true c), if_pos c]
      · rw [if_neg (by rw [decide_eq_false c]; decide), if_neg c]
    rw [show 8 * (n + 1) = 8 * n + (7 + 1) by omega, e 7 (by omega), e 6 (by omega), e 5 (by omega), e 4 (by omega), e 3 (by omega), e 2 (by omega), e 1 (by omega), e 0 (by omega), Nat.add_zero, ih, coN]
    omega
theorem sv_in {f : Int → Int} {wd : Int → Bool} {k : Nat} {fa tr ro lo : Int} (h1 : fa = (svN f wd k).2.1) (h2 : tr = (svN f wd k).2.2.1) (h3 : ro = (svN f wd k).2.2.2.1) (h4 : lo = (svN f wd k).2.2.2.2.1) (hw : wd ((k : Int) / 8) = true) : svS f ((svN f wd k).1, fa, tr, ro, lo, (svN f wd k).2.2.2.2.2) (((k : Int) / 8 * 8 + (k : Int) % 8) * 9 + 0) = svN f wd (k + 1) := by
  rw [h1, h2, h3, h4, svN, if_pos hw]
theorem sv_no {f : Int → Int} {wd : Int → Bool} {k : Nat} (hw : wd ((k : Int) / 8) = false) : svN f wd (k + 1) = svN f wd k := by
  rw [svN, if_neg (by rw [hw]; decide)]
theorem iI_or0 (x : Int) : iI x ||| iI 0 = iI x := by
  apply Int32.toBitVec_inj.mp
  show (iI x).toBitVec ||| 0#32 = (iI x).toBitVec
  exact BitVec.or_zero
