abbrev rmX11_gcd : Room := { frames := 0, cells := 0, slots := 0, locals := 0 }
set_option maxHeartbeats 4000000 in
set_option maxRecDepth 100000 in
theorem c_X11_gcd (l : Launch) (D : va_G) (cI cZ : ClassId) (z : jZT) (a9 b9 : Int) (ha : -1099511627776 < a9 ∧ a9 < 1099511627776) (hb9 : 0 ≤ b9 ∧ b9 < 1099511627776) : jRd l yX11_gcd wsX11_gcd rmX11_gcd [.long (lI (a9)), .long (lI (b9))] D cI cZ z [] (some (.long (lI (gcI a9 b9)))) := by
  refine jRd_of (cc := cX11_gcd) (n := 10) (ret := (some .long)) (by decide) rfl (Nat.le_of_ble_eq_true rfl) ?_
  intro p e s m below meth c A ls args Q hQ F hA hZ hP hK hD hS hl
  obtain ⟨hx, hb, hr, hml, hown, hts, hlocks⟩ := F
  have hown : s.vm.findClass RX11 = some m.cls := hown
  have hl : lv_has ls 10 [(0, .long (lI (a9))), (2, .long (lI (b9)))] := hl
  refine lv_lload_n hx hb dX11_gcd_0 rfl (lv_at hl 0 rfl) ?_
  refine lv_lconst (v := lI (0)) hx hb dX11_gcd_1 (by decide) ?_
  refine j_lcmp hx hb (by omega) dX11_gcd_2 ?_
  refine j_if_ge (tgt := 11) hx hb (by omega) dX11_gcd_3 (by decide) (fun c_3 => ?_) (fun c_3 => ?_)
  · refine lv_lload_n hx hb dX11_gcd_11 rfl (lv_at hl 0 rfl) ?_
    refine lv_lstore (lv' := [(4, .long (lI (a9))), (0, .long (lI (a9))), (2, .long (lI (b9)))]) hx hb dX11_gcd_12 hl (by decide) rfl (fun ls hl => ?_)
    refine lv_lload_n hx hb dX11_gcd_14 rfl (lv_at hl 2 rfl) ?_
    refine lv_lstore (lv' := [(6, .long (lI (b9))), (4, .long (lI (a9))), (0, .long (lI (a9))), (2, .long (lI (b9)))]) hx hb dX11_gcd_15 hl (by decide) rfl (fun ls hl => ?_)
    have loop_17 : ∀ (fuel_17 : Nat) (x : Int) (y : Int), ((0 ≤ x ∧ x < 1099511627776) ∧ (0 ≤ y ∧ y < 1099511627776) ∧ gcI x y = gcI a9 b9) → y.toNat < fuel_17 → ∀ ls : Array Slot, lv_has ls 10 [(4, .long (lI (x))), (6, .long (lI (y)))] → W p l e rmX11_gcd s m args below meth c s.heap [] 0 0 Q (F0 m 17 ls []) := by
      intro fuel_17
      induction fuel_17 with
      | zero => intro x y hI9 hm9; exact absurd hm9 (Nat.not_lt_zero _)
      | succ fuel_17 ih_17 =>
        intro x y hI_17 hm_17 ls hl
        obtain ⟨hi1, hi2, hi3⟩ := hI_17
        refine lv_lload hx hb dX11_gcd_17 (lv_at hl 1 rfl) ?_
        refine lv_lconst (v := lI (0)) hx hb dX11_gcd_19 (by decide) ?_
        refine j_lcmp hx hb (by omega) dX11_gcd_20 ?_
        refine j_if_eq (tgt := 42) hx hb (by omega) dX11_gcd_21 (by decide) (fun c_21 => ?_) (fun c_21 => ?_)
        · refine lv_lload hx hb dX11_gcd_42 (lv_at hl 0 rfl) ?_
          rw [hQ]; exact jr_lret hx hb hr hlocks (jo_l (by rw [← hi3, show y = 0 by omega, gcI_0 hi1.1])) dX11_gcd_44
        · have hq1 := Int.emod_lt_of_pos x (show 0 < y by omega)
          have hq2 := Int.emod_nonneg x (show y ≠ 0 by omega)
          refine lv_lload hx hb dX11_gcd_24 (lv_at hl 0 rfl) ?_
          refine lv_lload hx hb dX11_gcd_26 (lv_at hl 1 rfl) ?_
          refine j_lrem hx hb (by omega) dX11_gcd_28 ?_
          refine lv_lstore (lv' := [(8, .long (lI (x % y))), (4, .long (lI (x))), (6, .long (lI (y)))]) hx hb dX11_gcd_29 hl (by decide) rfl (fun ls hl => ?_)
          refine lv_lload hx hb dX11_gcd_31 (lv_at hl 2 rfl) ?_
          refine lv_lstore (lv' := [(4, .long (lI (y))), (8, .long (lI (x % y))), (6, .long (lI (y)))]) hx hb dX11_gcd_33 hl (by decide) rfl (fun ls hl => ?_)
          refine lv_lload hx hb dX11_gcd_35 (lv_at hl 1 rfl) ?_
          refine lv_lstore (lv' := [(6, .long (lI (x % y))), (4, .long (lI (y))), (8, .long (lI (x % y)))]) hx hb dX11_gcd_37 hl (by decide) rfl (fun ls hl => ?_)
          refine lv_goto (tgt := 17) hx hb dX11_gcd_39 (by decide) ?_
          exact ih_17 y ((x % y)) (by exact ⟨by omega, by omega, (gcI_step hi1.1 (by omega)).trans hi3⟩) (by omega) ls (lv_sub hl [1, 0] rfl)
    exact loop_17 _ a9 b9 (by exact ⟨by omega, by omega, by (unfold gcI; first | (rw [show (if a9 < 0 then -a9 else a9).natAbs = a9.natAbs by omega]; done) | (rw [show (-a9).natAbs = a9.natAbs by omega]; done) | rfl | (congr 2; omega))⟩) (Nat.lt_succ_self _) ls (lv_sub hl [1, 0] rfl)
  · refine lv_lload_n hx hb dX11_gcd_6 rfl (lv_at hl 0 rfl) ?_
    refine j_lneg hx hb dX11_gcd_7 ?_
    refine lv_goto (tgt := 12) hx hb dX11_gcd_8 (by decide) ?_
    refine lv_lstore (lv' := [(4, .long (lI (-a9))), (0, .long (lI (a9))), (2, .long (lI (b9)))]) hx hb dX11_gcd_12 hl (by decide) rfl (fun ls hl => ?_)
    refine lv_lload_n hx hb dX11_gcd_14 rfl (lv_at hl 2 rfl) ?_
    refine lv_lstore (lv' := [(6, .long (lI (b9))), (4, .long (lI (-a9))), (0, .long (lI (a9))), (2, .long (lI (b9)))]) hx hb dX11_gcd_15 hl (by decide) rfl (fun ls hl => ?_)
    have loop_17 : ∀ (fuel_17 : Nat) (x : Int) (y : Int), ((0 ≤ x ∧ x < 1099511627776) ∧ (0 ≤ y ∧ y < 1099511627776) ∧ gcI x y = gcI a9 b9) → y.toNat < fuel_17 → ∀ ls : Array Slot, lv_has ls 10 [(4, .long (lI (x))), (6, .long (lI (y)))] → W p l e rmX11_gcd s m args below meth c s.heap [] 0 0 Q (F0 m 17 ls []) := by
      intro fuel_17
      induction fuel_17 with
      | zero => intro x y hI9 hm9; exact absurd hm9 (Nat.not_lt_zero _)
      | succ fuel_17 ih_17 =>
        intro x y hI_17 hm_17 ls hl
        obtain ⟨hi1, hi2, hi3⟩ := hI_17
        refine lv_lload hx hb dX11_gcd_17 (lv_at hl 1 rfl) ?_
        refine lv_lconst (v := lI (0)) hx hb dX11_gcd_19 (by decide) ?_
        refine j_lcmp hx hb (by omega) dX11_gcd_20 ?_
        refine j_if_eq (tgt := 42) hx hb (by omega) dX11_gcd_21 (by decide) (fun c_21_1 => ?_) (fun c_21_1 => ?_)
        · refine lv_lload hx hb dX11_gcd_42 (lv_at hl 0 rfl) ?_
          rw [hQ]; exact jr_lret hx hb hr hlocks (jo_l (by rw [← hi3, show y = 0 by omega, gcI_0 hi1.1])) dX11_gcd_44
        · have hq1 := Int.emod_lt_of_pos x (show 0 < y by omega)
          have hq2 := Int.emod_nonneg x (show y ≠ 0 by omega)
          refine lv_lload hx hb dX11_gcd_24 (lv_at hl 0 rfl) ?_
          refine lv_lload hx hb dX11_gcd_26 (lv_at hl 1 rfl) ?_
          refine j_lrem hx hb (by omega) dX11_gcd_28 ?_
          refine lv_lstore (lv' := [(8, .long (lI (x % y))), (4, .long (lI (x))), (6, .long (lI (y)))]) hx hb dX11_gcd_29 hl (by decide) rfl (fun ls hl => ?_)
          refine lv_lload hx hb dX11_gcd_31 (lv_at hl 2 rfl) ?_
          refine lv_lstore (lv' := [(4, .long (lI (y))), (8, .long (lI (x % y))), (6, .long (lI (y)))]) hx hb dX11_gcd_33 hl (by decide) rfl (fun ls hl => ?_)
          refine lv_lload hx hb dX11_gcd_35 (lv_at hl 1 rfl) ?_
          refine lv_lstore (lv' := [(6, .long (lI (x % y))), (4, .long (lI (y))), (8, .long (lI (x % y)))]) hx hb dX11_gcd_37 hl (by decide) rfl (fun ls hl => ?_)
          refine lv_goto (tgt := 17) hx hb dX11_gcd_39 (by decide) ?_
          exact ih_17 y ((x % y)) (by exact ⟨by omega, by omega, (gcI_step hi1.1 (by omega)).trans hi3⟩) (by omega) ls (lv_sub hl [1, 0] rfl)
    exact loop_17 _ (-a9) b9 (by exact ⟨by omega, by omega, by (unfold gcI; first | (rw [show (if a9 < 0 then -a9 else a9).natAbs = a9.natAbs by omega]; done) | (rw [show (-a9).natAbs = a9.natAbs by omega]; done) | rfl | (congr 2; omega))⟩) (Nat.lt_succ_self _) ls (lv_sub hl [1, 0] rfl)
