/-! OUR PURE WORDS (07): NOW, its steps -/
def srt (W H : Int) (g : Int → Int) (no k d ro : Int) : Int := if isBk W H g (offI W H k d 1) = true then 5 else if 4 ≤ ro then 4 else if d % 2 = 0 then 2 else if (isWd W H g (offI W H k ((d + 1) % 8) no) || isWd W H g (offI W H k ((d + 7) % 8) no)) = true then 1 else 3
def stI (W H : Int) (g : Int → Int) (k sp : Int) : Int := if isWd W H g k = true then (if sp = 0 then 1 else 0) else 2
abbrev NT : Type := Int × Int × Int × Int × Int × Int × Int × Int × Int × Int
abbrev TT : Type := Int × Int × (Int → Int) × Int × Int × Int × Int
/-- one step: cell, direction, bent, spring, steps, moves, turns, rings, latest, row; the table: wide, high, kinds, nose, turn, bend, bell -/
def stpN (T : TT) (N : NT) : NT := match T, N with
  | (W, H, g, no, tu, be, bl), (k, d, b, sp, st, mo, tn, ri, la, ro) =>
    if trn W H g k d no = true then (k, (d + tu) % 8, b, sp - 1, st + 1, mo, tn + 1, ri, srt W H g no k d (ro + 1), ro + 1)
    else if isWd W H g (offI W H k d 1) = true then (offI W H k d 1, if 0 < be ∧ be ≤ b + 1 then (d + 1) % 8 else d, if 0 < be then (if be ≤ b + 1 then 0 else b + 1) else b, sp - 1, st + 1, mo + 1, tn, if offI W H k d 1 = bl then ri + 1 else ri, la, 0)
    else (offI W H k d 1, d, b, sp - 1, st + 1, mo + 1, tn, ri, la, 0)
def goN (T : TT) : Nat → NT → Int × NT
  | 0, N => (0, N)
  | n + 1, N => if stI T.1 T.2.1 T.2.2.1 N.1 N.2.2.2.1 = 0 then ((goN T n (stpN T N)).1 + 1, (goN T n (stpN T N)).2) else (0, N)
/-- what NOW may be: the cell is one of the table's or none, the direction, bent, the spring; a row that stays small -/
abbrev NowI (W H : Int) (k d b sp ro : Int) : Prop := (-9 ≤ k ∧ k < W * H) ∧ (0 ≤ d ∧ d < 8) ∧ (0 ≤ b ∧ b < 9) ∧ (0 ≤ sp ∧ sp < 1000) ∧ 0 ≤ ro
