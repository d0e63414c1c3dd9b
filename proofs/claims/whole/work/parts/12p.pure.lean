/-! OUR PURE WORDS (08): ways that come again; marks -/
/-- from q it comes back to q, first after p steps -/
abbrev LapI (f : Int → Int) (q N : Int) (p : Nat) : Prop := 1 ≤ p ∧ p ≤ 18432 ∧ itn f q p = q ∧ (∀ i : Nat, 0 < i → i < p → itn f q i ≠ q) ∧ ∀ i : Nat, i ≤ p → 0 ≤ itn f q i ∧ itn f q i < N
abbrev SeenI (mk : Int → Int) (ba : Int) (f : Int → Int) (q : Int) (i : Nat) : Prop := ∀ k : Int, 0 ≤ k → k < 256 → (ba < mk k ↔ snN f q i k = true)
theorem seen_0 {mk f : Int → Int} {ba q : Int} (h : ∀ j : Int, 0 ≤ j → j < 256 → mk j ≤ ba) : SeenI mk ba f q 0 := fun k h1 h2 => ⟨fun h3 => absurd (h k h1 h2) (by omega), fun h3 => by simp [snN] at h3⟩
theorem seen_step {mk mk2 f : Int → Int} {ba to q r c : Int} {i : Nat} (h : SeenI mk ba f q i) (hM : MkI 256 mk ba to) (hto : 1 ≤ to) (hc : c = itn f q i / 72) (hc2 : 0 ≤ c ∧ c < 256) (hi : 0 ≤ itn f q i) (hr : (mk c ≤ ba ∧ mk2 = upZ mk c (ba + 1) ∧ r = 1) ∨ (ba < mk c ∧ mk2 = mk ∧ r = 0)) :
    SeenI mk2 ba f q (i + 1) ∧ ceN f q (i + 1) = ceN f q i + r ∧ MkI 256 mk2 ba to := by
  have hs := h c hc2.1 hc2.2
  rcases hr with ⟨h1, rfl, rfl⟩ | ⟨h1, rfl, rfl⟩
  · have hsf : snN f q i c = false := by
      cases hq : snN f q i c with
      | false => rfl
      | true => have := hs.mpr hq; omega
    refine ⟨fun k k1 k2 => ?_, ?_, hM.1, hM.2.1, fun j j1 j2 => ?_⟩
    · rw [snN, Bool.or_eq_true, decide_eq_true_iff]
      by_cases hk : k = c
      · rw [hk, upZ_s]
        exact ⟨fun _ => Or.inr hc.symm, fun _ => by omega⟩
      · rw [upZ_n hk, h k k1 k2]
        exact ⟨fun q => Or.inl q, fun q => q.elim id (fun q2 => absurd (hc.trans q2).symm hk)⟩
    · rw [ceN, if_pos ⟨hi, by rw [← hc]; exact hsf⟩]
    · by_cases hk : j = c
      · rw [hk, upZ_s]; have := hM.1; omega
      · rw [upZ_n hk]; exact hM.2.2 j j1 j2
  · have hst := hs.mp h1
    refine ⟨fun k k1 k2 => ?_, ?_, hM⟩
    · rw [snN, Bool.or_eq_true, decide_eq_true_iff, h k k1 k2]
      exact ⟨fun q => Or.inl q, fun q => q.elim id (fun q2 => by rw [← q2, ← hc]; exact hst)⟩
    · rw [ceN, if_neg (fun q => by rw [← hc, hst] at q; exact absurd q.2 (by decide))]
