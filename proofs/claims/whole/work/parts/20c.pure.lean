/-! OUR PURE WORDS (34): the model's steps -/
def msF (W H : Int) (g : Int → Int) (no tu be x y d b : Int) : Int × Int × Int × Int × Int :=
  if mA W H g (x + asX d) (y + asX (d + 6)) = 2 ∨ mW W H g (x + no * asX d) (y + no * asX (d + 6)) = false then (0, x, y, (d + tu) % 8, b)
  else if mW W H g (x + asX d) (y + asX (d + 6)) = false then (-1, x + asX d, y + asX (d + 6), d, b)
  else (1, x + asX d, y + asX (d + 6), if 0 < be ∧ be ≤ b + 1 then (d + 1) % 8 else d, if 0 < be then (if be ≤ b + 1 then 0 else b + 1) else b)
theorem ms_turn {W H : Int} {g : Int → Int} {no tu be x y d b : Int} (h : mA W H g (x + asX d) (y + asX (d + 6)) = 2 ∨ mW W H g (x + no * asX d) (y + no * asX (d + 6)) = false) : msF W H g no tu be x y d b = (0, x, y, (d + tu) % 8, b) := if_pos h
theorem ms_fall {W H : Int} {g : Int → Int} {no tu be x y d b : Int} (h : ¬ mA W H g (x + asX d) (y + asX (d + 6)) = 2) (h1 : mW W H g (x + no * asX d) (y + no * asX (d + 6)) = true) (h2 : mW W H g (x + asX d) (y + asX (d + 6)) = false) : msF W H g no tu be x y d b = (-1, x + asX d, y + asX (d + 6), d, b) := by
  unfold msF
  rw [if_neg (fun w => w.elim h (fun w2 => by rw [h1] at w2; exact absurd w2 (by decide))), if_pos h2]
theorem ms_move {W H : Int} {g : Int → Int} {no tu be x y d b : Int} (h : ¬ mA W H g (x + asX d) (y + asX (d + 6)) = 2) (h1 : mW W H g (x + no * asX d) (y + no * asX (d + 6)) = true) (h2 : mW W H g (x + asX d) (y + asX (d + 6)) = true) : msF W H g no tu be x y d b = (1, x + asX d, y + asX (d + 6), if 0 < be ∧ be ≤ b + 1 then (d + 1) % 8 else d, if 0 < be then (if be ≤ b + 1 then 0 else b + 1) else b) := by
  unfold msF
  rw [if_neg (fun w => w.elim h (fun w2 => by rw [h1] at w2; exact absurd w2 (by decide))), if_neg (by rw [h2]; decide)]
