/-! OUR PURE WORDS (31): chance -/
theorem iI_u32 (x : Int) : (iI x).toUInt32.toNat = (x % 4294967296).toNat := by
  show (BitVec.ofInt 32 x).toNat = _
  rw [BitVec.toNat_ofInt]
  rfl
theorem u32_iI (u : UInt32) : u.toInt32 = iI (u.toNat : Int) := by
  unfold iI
  apply Int32.toBitVec_inj.mp
  show u.toBitVec = BitVec.ofInt 32 (u.toBitVec.toNat : Int)
  rw [BitVec.ofInt_natCast, BitVec.ofNat_toNat, BitVec.setWidth_eq]
theorem ushr16 (x : Int) : ((iI x).toUInt32 >>> ((iI 16).toUInt32 &&& Int32.toUInt32 31)).toInt32 = iI (x % 4294967296 / 65536) := by
  rw [u32_iI, UInt32.toNat_shiftRight, iI_u32, show ((iI 16).toUInt32 &&& Int32.toUInt32 31).toNat % 32 = 16 from rfl, Nat.shiftRight_eq_div_pow]
  rw [show (((x % 4294967296).toNat / 2 ^ 16 : Nat) : Int) = x % 4294967296 / 65536 by omega]
def lotN (x : Int) : Int := x * 1103515245 + 12345
def drU (x : Int) : Int := x % 4294967296 / 65536 % 7
theorem drU_rng (x : Int) : 0 ≤ drU x ∧ drU x ≤ 6 := by unfold drU; omega
def dwS (W H : Int) (g : Int → Int) (no tu be : Int) (S : Int × Int) : Int × Int := if S.1 < 0 then S else if ldI W H g no (S.1 / 9) = -1 then (stF W H g no (1 + drU (lotN S.2)) be S.1, lotN S.2) else (stF W H g no tu be S.1, S.2)
def dwN (W H : Int) (g : Int → Int) (no tu be : Int) (S : Int × Int) : Nat → Int × Int
  | 0 => S
  | n + 1 => dwS W H g no tu be (dwN W H g no tu be S n)
def sqS (s : Nat → Int) : Nat → Int → Bool
  | 0, _ => false
  | n + 1, k => sqS s n k || decide (s n / 72 = k)
def sqC (s : Nat → Int) : Nat → Int
  | 0 => 0
  | n + 1 => sqC s n + if 0 ≤ s n ∧ sqS s n (s n / 72) = false then 1 else 0
theorem sqC_rng (s : Nat → Int) : ∀ n : Nat, 0 ≤ sqC s n ∧ sqC s n ≤ n
  | 0 => by simp [sqC]
  | n + 1 => by have := sqC_rng s n; rw [sqC]; by_cases h : 0 ≤ s n ∧ sqS s n (s n / 72) = false <;> simp only [h, if_true, if_false] <;> omega
abbrev SqI (mk : Int → Int) (ba : Int) (s : Nat → Int) (i : Nat) : Prop := ∀ k : Int, 0 ≤ k → k < 256 → (ba < mk k ↔ sqS s i k = true)
theorem sq_0 {mk : Int → Int} {s : Nat → Int} {ba : Int} (h : ∀ j : Int, 0 ≤ j → j < 256 → mk j ≤ ba) : SqI mk ba s 0 := fun k h1 h2 => ⟨fun h3 => absurd (h k h1 h2) (by omega), fun h3 => by simp [sqS] at h3⟩
theorem sq_step {mk mk2 : Int → Int} {s : Nat → Int} {ba to r c : Int} {i : Nat} (h : SqI mk ba s i) (hM : MkI 256 mk ba to) (hto : 1 ≤ to) (hc : c = s i / 72) (hc2 : 0 ≤ c ∧ c < 256) (hi : 0 ≤ s i) (hr : (mk c ≤ ba ∧ mk2 = upZ mk c (ba + 1) ∧ r = 1) ∨ (ba < mk c ∧ mk2 = mk ∧ r = 0)) :
    SqI mk2 ba s (i + 1) ∧ sqC s (i + 1) = sqC s i + r ∧ MkI 256 mk2 ba to := by
  have hs := h c hc2.1 hc2.2
  rcases hr with ⟨h1, rfl, rfl⟩ | ⟨h1, rfl, rfl⟩
  · have hsf : sqS s i c = false := by
      cases hq : sqS s i c with
      | false => rfl
      | true => have := hs.mpr hq; omega
    refine ⟨fun k k1 k2 => ?_, ?_, hM.1, hM.2.1, fun j j1 j2 => ?_⟩
    · rw [sqS, Bool.or_eq_true, decide_eq_true_iff]
      by_cases hk : k = c
      · rw [hk, upZ_s]
        exact ⟨fun _ => Or.inr hc.symm, fun _ => by omega⟩
      · rw [upZ_n hk, h k k1 k2]
        exact ⟨fun q => Or.inl q, fun q => q.elim id (fun q2 => absurd (hc.trans q2).symm hk)⟩
    · rw [sqC, if_pos ⟨hi, by rw [← hc]; exact hsf⟩]
    · by_cases hk : j = c
      · rw [hk, upZ_s]; have := hM.1; omega
      · rw [upZ_n hk]; exact hM.2.2 j j1 j2
  · have hst := hs.mp h1
    refine ⟨fun k k1 k2 => ?_, ?_, hM⟩
    · rw [sqS, Bool.or_eq_true, decide_eq_true_iff, h k k1 k2]
      exact ⟨fun q => Or.inl q, fun q => q.elim id (fun q2 => by rw [← q2, ← hc]; exact hst)⟩
    · rw [sqC, if_neg (fun q => by rw [← hc, hst] at q; exact absurd q.2 (by decide))]
theorem sq_out {mk : Int → Int} {s : Nat → Int} {ba : Int} {i : Nat} (h : SqI mk ba s i) (hi : s i < 0) : SqI mk ba s (i + 1) ∧ sqC s (i + 1) = sqC s i := by
  refine ⟨fun k k1 k2 => ?_, ?_⟩
  · rw [sqS, h k k1 k2, decide_eq_false (by omega), Bool.or_false]
  · rw [sqC, if_neg (by omega)]
    omega
theorem dw_out {W H : Int} {g : Int → Int} {no tu be : Int} {S : Int × Int} {k : Nat} (h : (dwN W H g no tu be S k).1 < 0) : ∀ j : Nat, dwN W H g no tu be S (k + j) = dwN W H g no tu be S k
  | 0 => rfl
  | j + 1 => by
    rw [← Nat.add_assoc, dwN, dw_out h j]
    unfold dwS
    rw [if_pos h]
theorem sqC_out {s : Nat → Int} {k : Nat} (h : ∀ j : Nat, s (k + j) < 0) : ∀ j : Nat, sqC s (k + j) = sqC s k
  | 0 => rfl
  | j + 1 => by
    rw [← Nat.add_assoc, sqC, sqC_out h j, if_neg (by have := h j; omega)]
    omega
theorem stF_same {W H : Int} {g : Int → Int} {no t1 t2 be q : Int} (h : ¬ ldI W H g no (q / 9) = -1) : stF W H g no t1 be q = stF W H g no t2 be q := by
  unfold stF nxI
  rw [if_neg h, if_neg h]
theorem dw_turn {W H : Int} {g : Int → Int} {no tu be q t : Int} {S : Int × Int} {k : Nat} (hD : dwN W H g no tu be S k = (q, t)) (hq : 0 ≤ q) (hl : ldI W H g no (q / 9) = -1) : dwN W H g no tu be S (k + 1) = (stF W H g no (1 + drU (lotN t)) be q, lotN t) := by
  rw [dwN, hD]
  unfold dwS
  rw [if_neg (by dsimp only; omega), if_pos hl]
theorem dw_go {W H : Int} {g : Int → Int} {no tu be q t t1 : Int} {S : Int × Int} {k : Nat} (hD : dwN W H g no tu be S k = (q, t)) (hq : 0 ≤ q) (hl : ¬ ldI W H g no (q / 9) = -1) : dwN W H g no tu be S (k + 1) = (stF W H g no t1 be q, t) := by
  rw [dwN, hD]
  unfold dwS
  rw [if_neg (by dsimp only; omega), if_neg hl]
  dsimp only
  rw [stF_same hl]
