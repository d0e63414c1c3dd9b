/-! OUR PURE WORDS (38) -/
def mSt (W H : Int) (g : Int → Int) (x y sp : Int) : Int := if mW W H g x y = false then 2 else if sp = 0 then 1 else 0
theorem mSt_2 {W H x y sp : Int} {g : Int → Int} (h : ¬ mSt W H g x y sp = 2) : mW W H g x y = true := by
  cases w : mW W H g x y with
  | true => rfl
  | false => exact absurd (by unfold mSt; rw [if_pos w]) h
theorem mSt_rng (W H : Int) (g : Int → Int) (x y sp : Int) : 0 ≤ mSt W H g x y sp ∧ mSt W H g x y sp ≤ 2 := by
  unfold mSt
  cases mW W H g x y <;> simp <;> omega
