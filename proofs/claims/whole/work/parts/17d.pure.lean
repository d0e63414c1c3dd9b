/-! OUR PURE WORDS (21): how far it is to the bell -/
def hitN (f : Int → Int) (bl q : Int) : Nat → Bool
  | 0 => decide (0 ≤ itn f q 0 ∧ itn f q 0 / 72 = bl)
  | n + 1 => hitN f bl q n || decide (0 ≤ itn f q (n + 1) ∧ itn f q (n + 1) / 72 = bl)
theorem hit_iff (f : Int → Int) (bl q : Int) : ∀ n : Nat, hitN f bl q n = true ↔ ∃ i : Nat, i ≤ n ∧ 0 ≤ itn f q i ∧ itn f q i / 72 = bl
  | 0 => by
    rw [hitN, decide_eq_true_iff]
    exact ⟨fun h => ⟨0, Nat.le_refl _, h⟩, fun ⟨i, h1, h2⟩ => by rw [show i = 0 by omega] at h2; exact h2⟩
  | n + 1 => by
    rw [hitN, Bool.or_eq_true, hit_iff f bl q n, decide_eq_true_iff]
    constructor
    · rintro (⟨i, h1, h2⟩ | h)
      · exact ⟨i, by omega, h2⟩
      · exact ⟨n + 1, Nat.le_refl _, h⟩
    · rintro ⟨i, h1, h2⟩
      by_cases hi : i = n + 1
      · exact Or.inr (by rw [← hi]; exact h2)
      · exact Or.inl ⟨i, by omega, h2⟩
abbrev DisI (f : Int → Int) (bl q v : Int) : Prop := (0 ≤ v ∧ v ≤ 18433) ∧ ∀ n : Nat, n < 18433 → (v ≤ (n : Int) ↔ hitN f bl q n = true)
theorem itn_1 (f : Int → Int) (q : Int) (i : Nat) : itn f q (i + 1) = itn f (f q) i := by rw [Nat.add_comm, itn_add]; rfl
theorem dis_never {f : Int → Int} {bl q : Int} (h : ∀ i : Nat, ¬ (0 ≤ itn f q i ∧ itn f q i / 72 = bl)) : DisI f bl q 18433 := ⟨by omega, fun n hn => ⟨fun w => absurd w (by omega), fun w => by
  obtain ⟨i, _, h2⟩ := (hit_iff f bl q n).mp w
  exact absurd h2 (h i)⟩⟩
theorem dis_bell {f : Int → Int} {bl q : Int} (h : 0 ≤ q ∧ q / 72 = bl) : DisI f bl q 0 := ⟨by omega, fun n _ => ⟨fun _ => (hit_iff f bl q n).mpr ⟨0, by omega, h⟩, fun _ => by omega⟩⟩
theorem itn_out {f : Int → Int} (hf1 : f (-1) = -1) : ∀ i : Nat, itn f (-1) i = -1
  | 0 => rfl
  | i + 1 => by rw [itn, itn_out hf1 i, hf1]
theorem dis_fall {f : Int → Int} {bl : Int} (hf1 : f (-1) = -1) : DisI f bl (-1) 18433 := dis_never (fun i w => by rw [itn_out hf1 i] at w; omega)
theorem dis_up {f : Int → Int} {bl q v : Int} (h : DisI f bl (f q) v) (hq : ¬ (0 ≤ q ∧ q / 72 = bl)) : DisI f bl q (if 18433 < v + 1 then 18433 else v + 1) := by
  refine ⟨by have := h.1; omega, fun n hn => ?_⟩
  have h0 := h.1
  cases n with
  | zero =>
    refine ⟨fun w => absurd w (by omega), fun w => ?_⟩
    obtain ⟨i, h1, h2⟩ := (hit_iff f bl q 0).mp w
    rw [show i = 0 by omega] at h2
    exact absurd h2 hq
  | succ n =>
    have e := h.2 n (by omega)
    constructor
    · intro w
      obtain ⟨i, h1, h2⟩ := (hit_iff f bl (f q) n).mp (e.mp (by omega))
      exact (hit_iff f bl q (n + 1)).mpr ⟨i + 1, by omega, by rw [itn_1]; exact h2⟩
    · intro w
      obtain ⟨i, h1, h2⟩ := (hit_iff f bl q (n + 1)).mp w
      cases i with
      | zero => exact absurd h2 hq
      | succ i =>
        rw [itn_1] at h2
        have := e.mpr ((hit_iff f bl (f q) n).mpr ⟨i, by omega, h2⟩)
        omega
theorem lap_all {f : Int → Int} {q N : Int} {p : Nat} (h : LapI f q N p) {P : Int → Prop} (hP : ∀ i : Nat, i < p → P (itn f q i)) : ∀ n i : Nat, i < n → P (itn f q i)
  | 0, i, hi => absurd hi (Nat.not_lt_zero _)
  | n + 1, i, hi => by
    by_cases w : i < p
    · exact hP i w
    · have := lap_all h hP n (i - p) (by have := h.1; omega)
      have e := itn_add f q p (i - p)
      rw [show p + (i - p) = i by omega, h.2.2.1] at e
      rw [e]
      exact this
abbrev MdF (mk : Int → Int) (ba bl : Int) : Int → Int := fun k => if k / 72 = bl ∨ gtI mk ba k ≠ 0 then 1 else 0
abbrev MkE (mk : Int → Int) (ba N : Int) (f : Int → Int) (bl s : Int) (n : Nat) : Prop := ∀ k : Int, 0 ≤ k → k < N → (inN f s n k = true → gtI mk ba k = 18434) ∧ (inN f s n k = false → gtI mk ba k = 0 ∨ (1 ≤ gtI mk ba k ∧ DisI f bl k (gtI mk ba k - 1)))
abbrev MkD (mk : Int → Int) (ba N : Int) (f : Int → Int) (bl : Int) : Prop := ∀ k : Int, 0 ≤ k → k < N → gtI mk ba k = 0 ∨ (1 ≤ gtI mk ba k ∧ DisI f bl k (gtI mk ba k - 1))
theorem mkE_0 {mk : Int → Int} {ba N bl s : Int} {f : Int → Int} (h : MkD mk ba N f bl) : MkE mk ba N f bl s 0 := fun k a b => ⟨fun w => by simp [inN] at w, fun _ => h k a b⟩
theorem mkE_d {mk : Int → Int} {ba N bl s : Int} {f : Int → Int} (h : MkE mk ba N f bl s 0) : MkD mk ba N f bl := fun k a b => (h k a b).2 rfl
theorem mkE_step {mk : Int → Int} {ba N bl s q : Int} {f : Int → Int} {n : Nat} (h : MkE mk ba N f bl s n) (hq : q = itn f s n) : MkE (upZ mk q (ba + 18434)) ba N f bl s (n + 1) := fun k a b => by
  rw [gt_up (by omega)]
  by_cases e : k = q
  · rw [if_pos e]
    exact ⟨fun _ => rfl, fun w => by rw [(inN_iff f s (n + 1) k).mpr ⟨n, by omega, by omega⟩] at w; exact absurd w (by decide)⟩
  · rw [if_neg e, inN, decide_eq_false (fun w => e (w.symm.trans hq.symm)), Bool.or_false]
    exact h k a b
theorem mkE_back {mk : Int → Int} {ba N bl s q v : Int} {f : Int → Int} {n : Nat} (h : MkE mk ba N f bl s (n + 1)) (hq : q = itn f s n) (hd : inN f s n q = false) (hv : DisI f bl q v) : MkE (upZ mk q (ba + (v + 1))) ba N f bl s n := fun k a b => by
  rw [gt_up (by have := hv.1; omega)]
  by_cases e : k = q
  · rw [if_pos e, e]
    exact ⟨fun w => by rw [hd] at w; exact absurd w (by decide), fun _ => Or.inr ⟨by have := hv.1; omega, by rw [show v + 1 - 1 = v by omega]; exact hv⟩⟩
  · rw [if_neg e]
    have w := h k a b
    rw [inN, decide_eq_false (fun w => e (w.symm.trans hq.symm)), Bool.or_false] at w
    exact w
/-- at the walk's end -/
theorem mkE_end {mk mk0 : Int → Int} {ba N bl s : Int} {f : Int → Int} {n m : Nat} (hF : FokI f N) (hW : WkI f (MdF mk0 ba bl) s N n m) (h : MkE mk ba N f bl s n) (he : itn f s n < 0 ∨ MdF mk0 ba bl (itn f s n) ≠ 0 ∨ inN f s n (itn f s n) = true) (hsame : ∀ k : Int, inN f s n k = false → mk k = mk0 k) (hr : 0 ≤ itn f s n ∧ itn f s n < N) (hb : ¬ itn f s n / 72 = bl) :
    DisI f bl (itn f s n) (gtI mk ba (itn f s n) - 1) := by
  have e := h _ hr.1 hr.2
  cases hi : inN f s n (itn f s n) with
  | true =>
    rw [e.1 hi]
    have hL := wk_lap hF hW hi
    have hns : ∀ i : Nat, i < n → ¬ (0 ≤ itn f s i ∧ itn f s i / 72 = bl) := fun i hi2 w => by
      have g := (hW.2.2.2 i hi2).2.1
      unfold MdF at g
      rw [if_pos (Or.inl w.2)] at g
      exact absurd g (by decide)
    obtain ⟨j, hj, ej⟩ := (inN_iff f s n _).mp hi
    have hlb : lap f (itn f s n) ≤ n - j := by
      have q1 : itn f (itn f s n) (n - j) = itn f s n := by rw [← ej, ← itn_add, show j + (n - j) = n by omega]; exact ej.symm
      by_cases w : lap f (itn f s n) ≤ n - j
      · exact w
      · exact absurd q1 (hL.2.2.2.1 (n - j) (by omega) (by omega))
    refine dis_never (fun i => lap_all hL (P := fun x => ¬ (0 ≤ x ∧ x / 72 = bl)) (fun i hi2 => ?_) (i + 1) i (by omega))
    rw [← ej, ← itn_add]
    exact hns (j + i) (by omega)
  | false =>
    rcases e.2 hi with w | w
    · rcases he with q | q | q
      · exact absurd q (by omega)
      · unfold MdF at q
        have hg : gtI mk0 ba (itn f s n) = gtI mk ba (itn f s n) := by unfold gtI; rw [hsame _ hi]
        rw [if_neg (fun u => u.elim hb (fun u2 => u2 (by rw [hg]; exact w)))] at q
        exact absurd rfl q
      · rw [hi] at q; exact absurd q (by decide)
    · exact w.2
/-- of all starts before the k-th: how many ring within n steps -/
def rgN (f : Int → Int) (wd : Int → Bool) (bl : Int) (n : Nat) : Nat → Int
  | 0 => 0
  | k + 1 => rgN f wd bl n k + if wd ((k : Int) / 8) = true ∧ hitN f bl (((k : Int) / 8 * 8 + (k : Int) % 8) * 9 + 0) n = true then 1 else 0
theorem rgN_rng (f : Int → Int) (wd : Int → Bool) (bl : Int) (n : Nat) : ∀ k : Nat, 0 ≤ rgN f wd bl n k ∧ rgN f wd bl n k ≤ (k : Int)
  | 0 => ⟨Int.le_refl _, Int.le_refl _⟩
  | k + 1 => by have := rgN_rng f wd bl n k; rw [rgN]; omega
theorem rg_skip {f : Int → Int} {wd : Int → Bool} {bl : Int} {n c : Nat} (h : wd (c : Int) = false) : ∀ e d : Nat, d + e = 8 → rgN f wd bl n (8 * c + 8) = rgN f wd bl n (8 * c + d)
  | 0, d, hd => by rw [show d = 8 by omega]
  | e + 1, d, hd => by
    have ih := rg_skip (f := f) (bl := bl) (n := n) h e (d + 1) (by omega)
    have hc : ¬ (wd (((8 * c + d : Nat) : Int) / 8) = true ∧ hitN f bl ((((8 * c + d : Nat) : Int) / 8 * 8 + ((8 * c + d : Nat) : Int) % 8) * 9 + 0) n = true) := fun w => by
      have w1 := w.1
      rw [show ((8 * c + d : Nat) : Int) / 8 = (c : Int) by omega, h] at w1
      exact absurd w1 (by decide)
    rw [ih, ← Nat.add_assoc, rgN, if_neg hc]
    omega
theorem mkD_0 {mk : Int → Int} {ba N bl : Int} {f : Int → Int} (h : ∀ j : Int, 0 ≤ j → j < N → mk j ≤ ba) : MkD mk ba N f bl := fun k a b => Or.inl (by unfold gtI; rw [if_neg (by have := h k a b; omega)])
/-- the least cell below W * H that is in all -/
def lsF (al : Int → Bool) : Nat → Int → Int
  | 0, _ => -9
  | m + 1, c => if al c = true then c else lsF al m (c + 1)
def coN (W H : Int) (g : Int → Int) (w : Int) : Nat → Int
  | 0 => 0
  | k + 1 => coN W H g w k + if kd W H g (k : Int) = w then 1 else 0
theorem coN_rng (W H : Int) (g : Int → Int) (w : Int) : ∀ k : Nat, 0 ≤ coN W H g w k ∧ coN W H g w k ≤ (k : Int)
  | 0 => ⟨Int.le_refl _, Int.le_refl _⟩
  | k + 1 => by have := coN_rng W H g w k; rw [coN]; omega
