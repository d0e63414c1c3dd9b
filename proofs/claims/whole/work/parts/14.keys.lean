abbrev rmX10_divisorOf : Room := { frames := 0, cells := 0, slots := 0, locals := 0 }
set_option maxHeartbeats 4000000 in
set_option maxRecDepth 100000 in
theorem c_X10_divisorOf (l : Launch) (D : va_G) (cI cZ : ClassId) (z : jZT) (x y : Int) (hx9 : 0 ≤ x ∧ x < 1099511627776) (hy9 : 0 ≤ y ∧ y < 1099511627776) : jRd l yX10_divisorOf wsX10_divisorOf rmX10_divisorOf [.long (lI (x)), .long (lI (y))] D cI cZ z [] (some (.long (lI (if 0 < gcI x y then gcI x y else 1)))) := by
  refine jRd_of (cc := cX10_divisorOf) (n := 11) (ret := (some .long)) (by decide) rfl (Nat.le_of_ble_eq_true rfl) ?_
  intro p e s m below meth c A ls args Q hQ F hA hZ hP hK hD hS hl
  obtain ⟨hx, hb, hr, hml, hown, hts, hlocks⟩ := F
  have hown : s.vm.findClass RX10 = some m.cls := hown
  have hl : lv_has ls 11 [(0, .long (lI (x))), (2, .long (lI (y)))] := hl
  refine lv_lload_n hx hb dX10_divisorOf_0 rfl (lv_at hl 0 rfl) ?_
  refine lv_lstore (lv' := [(4, .long (lI (x))), (0, .long (lI (x))), (2, .long (lI (y)))]) hx hb dX10_divisorOf_1 hl (by decide) rfl (fun ls hl => ?_)
  refine lv_lload_n hx hb dX10_divisorOf_3 rfl (lv_at hl 2 rfl) ?_
  refine lv_lstore (lv' := [(6, .long (lI (y))), (4, .long (lI (x))), (0, .long (lI (x))), (2, .long (lI (y)))]) hx hb dX10_divisorOf_4 hl (by decide) rfl (fun ls hl => ?_)
  refine lv_iconst (v := iI (0)) hx hb dX10_divisorOf_6 rfl ?_
  refine lv_istore (lv' := [(8, .int (iI (0))), (6, .long (lI (y))), (4, .long (lI (x))), (0, .long (lI (x))), (2, .long (lI (y)))]) hx hb dX10_divisorOf_7 hl (by decide) rfl (fun ls hl => ?_)
  have loop_9 : ∀ (fuel_9 : Nat) (i : Int) (hi : Int) (lo : Int) (n : Nat), (i = (n : Int) ∧ n ≤ 100 ∧ (0 ≤ hi ∧ hi < 1099511627776) ∧ (0 ≤ lo ∧ lo < 1099511627776) ∧ gcI hi lo = gcI x y ∧ (n = 0 ∨ lo < hi) ∧ (n = 0 ∨ hi * lo ≤ hlv n)) → (100 - i).toNat < fuel_9 → ∀ ls : Array Slot, lv_has ls 11 [(4, .long (lI (hi))), (6, .long (lI (lo))), (8, .int (iI (i)))] → W p l e rmX10_divisorOf s m args below meth c s.heap [] 0 0 Q (F0 m 9 ls []) := by
    intro fuel_9
    induction fuel_9 with
    | zero => intro i hi lo n hI9 hm9; exact absurd hm9 (Nat.not_lt_zero _)
    | succ fuel_9 ih_9 =>
      intro i hi lo n hI_9 hm_9 ls hl
      obtain ⟨hi1, hi2, hi3, hi4, hi5, hi6, hi7⟩ := hI_9
      refine lv_iload hx hb dX10_divisorOf_9 (lv_at hl 2 rfl) ?_
      refine lv_bipush (v := iI (100)) hx hb dX10_divisorOf_11 (by decide) ?_
      refine j_icmp_ge (tgt := 44) hx hb (by omega) dX10_divisorOf_13 (by decide) (fun c_13 => ?_) (fun c_13 => ?_)
      · have hlo : lo = 0 := by
          by_cases hn : n = 100
          · subst hn
            have h1 : hi * lo ≤ 0 := by
              have h2 := hi7.resolve_left (by omega)
              rw [show hlv 100 = 0 from rfl] at h2
              exact h2
            have h3 : lo < hi := hi6.resolve_left (by omega)
            by_cases h4 : 0 < lo
            · have := Int.mul_pos (show 0 < hi by omega) h4; omega
            · omega
          · omega
        subst hlo
        rw [gcI_0 hi3.1] at hi5
        refine lv_lload hx hb dX10_divisorOf_44 (lv_at hl 0 rfl) ?_
        refine lv_lconst (v := lI (0)) hx hb dX10_divisorOf_46 (by decide) ?_
        refine j_lcmp hx hb (by omega) dX10_divisorOf_47 ?_
        refine j_if_le (tgt := 56) hx hb (by omega) dX10_divisorOf_48 (by decide) (fun c_48 => ?_) (fun c_48 => ?_)
        · refine lv_lconst (v := lI (1)) hx hb dX10_divisorOf_56 (by decide) ?_
          rw [hQ]; exact jr_lret hx hb hr hlocks (jo_l (by rw [← hi5]; omega)) dX10_divisorOf_57
        · refine lv_lload hx hb dX10_divisorOf_51 (lv_at hl 0 rfl) ?_
          refine lv_goto (tgt := 57) hx hb dX10_divisorOf_53 (by decide) ?_
          rw [hQ]; exact jr_lret hx hb hr hlocks (jo_l (by rw [← hi5]; omega)) dX10_divisorOf_57
      · refine lv_lload hx hb dX10_divisorOf_16 (lv_at hl 1 rfl) ?_
        refine lv_lconst (v := lI (0)) hx hb dX10_divisorOf_18 (by decide) ?_
        refine j_lcmp hx hb (by omega) dX10_divisorOf_19 ?_
        refine j_if_le (tgt := 44) hx hb (by omega) dX10_divisorOf_20 (by decide) (fun c_20 => ?_) (fun c_20 => ?_)
        · have hlo : lo = 0 := by
            by_cases hn : n = 100
            · subst hn
              have h1 : hi * lo ≤ 0 := by
                have h2 := hi7.resolve_left (by omega)
                rw [show hlv 100 = 0 from rfl] at h2
                exact h2
              have h3 : lo < hi := hi6.resolve_left (by omega)
              by_cases h4 : 0 < lo
              · have := Int.mul_pos (show 0 < hi by omega) h4; omega
              · omega
            · omega
          subst hlo
          rw [gcI_0 hi3.1] at hi5
          refine lv_lload hx hb dX10_divisorOf_44 (lv_at hl 0 rfl) ?_
          refine lv_lconst (v := lI (0)) hx hb dX10_divisorOf_46 (by decide) ?_
          refine j_lcmp hx hb (by omega) dX10_divisorOf_47 ?_
          refine j_if_le (tgt := 56) hx hb (by omega) dX10_divisorOf_48 (by decide) (fun c_48_1 => ?_) (fun c_48_1 => ?_)
          · refine lv_lconst (v := lI (1)) hx hb dX10_divisorOf_56 (by decide) ?_
            rw [hQ]; exact jr_lret hx hb hr hlocks (jo_l (by rw [← hi5]; omega)) dX10_divisorOf_57
          · refine lv_lload hx hb dX10_divisorOf_51 (lv_at hl 0 rfl) ?_
            refine lv_goto (tgt := 57) hx hb dX10_divisorOf_53 (by decide) ?_
            rw [hQ]; exact jr_lret hx hb hr hlocks (jo_l (by rw [← hi5]; omega)) dX10_divisorOf_57
        · have hq1 := Int.emod_lt_of_pos hi (show 0 < lo by omega)
          have hq2 := Int.emod_nonneg hi (show lo ≠ 0 by omega)
          have hhv : lo * (hi % lo) ≤ hlv (n + 1) := by
            by_cases h : n = 0
            · subst h
              have hb := mul_b (a := hi) (b := lo) (A := 1099511627776) (B := 1099511627776) ⟨by omega, by omega⟩ ⟨by omega, by omega⟩
              have h80 : hlv (0 + 1) = 1208925819614629174706176 := by decide
              have hc := Int.mul_comm hi lo
              by_cases hlt : hi < lo
              · rw [Int.emod_eq_of_lt hi3.1 hlt]; omega
              · have hm := Int.mul_le_mul_of_nonneg_left (show hi % lo ≤ hi by omega) (show 0 ≤ lo by omega)
                omega
            · exact gcd_half hi3.1 (by omega) (by omega) (hi7.resolve_left h)
          refine lv_lload hx hb dX10_divisorOf_23 (lv_at hl 0 rfl) ?_
          refine lv_lload hx hb dX10_divisorOf_25 (lv_at hl 1 rfl) ?_
          refine j_lrem hx hb (by omega) dX10_divisorOf_27 ?_
          refine lv_lstore (lv' := [(9, .long (lI (hi % lo))), (4, .long (lI (hi))), (6, .long (lI (lo))), (8, .int (iI (i)))]) hx hb dX10_divisorOf_28 hl (by decide) rfl (fun ls hl => ?_)
          refine lv_lload hx hb dX10_divisorOf_30 (lv_at hl 2 rfl) ?_
          refine lv_lstore (lv' := [(4, .long (lI (lo))), (9, .long (lI (hi % lo))), (6, .long (lI (lo))), (8, .int (iI (i)))]) hx hb dX10_divisorOf_32 hl (by decide) rfl (fun ls hl => ?_)
          refine lv_lload hx hb dX10_divisorOf_34 (lv_at hl 1 rfl) ?_
          refine lv_lstore (lv' := [(6, .long (lI (hi % lo))), (4, .long (lI (lo))), (9, .long (lI (hi % lo))), (8, .int (iI (i)))]) hx hb dX10_divisorOf_36 hl (by decide) rfl (fun ls hl => ?_)
          refine lv_iinc (v := iI (i + 1)) (lv' := [(8, .int (iI (i + 1))), (6, .long (lI (hi % lo))), (4, .long (lI (lo))), (9, .long (lI (hi % lo)))]) hx hb dX10_divisorOf_38 hl (k := 3) rfl (iI_add _ _) (by decide) rfl (fun ls hl => ?_)
          refine lv_goto (tgt := 9) hx hb dX10_divisorOf_41 (by decide) ?_
          exact ih_9 ((i + 1)) lo ((hi % lo)) (n + 1) (by exact ⟨by omega, by omega, hi4, by omega, (gcI_step hi3.1 (by omega)).trans hi5, Or.inr (by omega), Or.inr hhv⟩) (by omega) ls (lv_sub hl [2, 1, 0] rfl)
  exact loop_9 _ 0 x y 0 (by exact ⟨rfl, by omega, hx9, hy9, rfl, Or.inl rfl, Or.inl rfl⟩) (Nat.lt_succ_self _) ls (lv_sub hl [2, 1, 0] rfl)
abbrev rmX1_add : Room := { frames := 1, cells := 0, slots := 0, locals := 22 }
set_option maxHeartbeats 4000000 in
set_option maxRecDepth 100000 in
theorem c_X1_add (l : Launch) (D : va_G) (cI cZ : ClassId) (z : jZT) (h0 h1 h2 : Nat) (t9 s9 km ku kl : Int) (kt ks : Int → Int) (hkm : 0 ≤ km ∧ km ≤ 20) : jMu (S := (Int → Int) × (Int → Int) × Int) l yX1_add wsX1_add rmX1_add [.ref h0, .int (iI (t9)), .int (iI (s9))] D cI cZ z [(h0, .inr (1, [.ref h1, .ref h2, .int (iI (km)), .long (lI (ku)), .long (lI (kl))])), (h1, .inl (cI, 20, .inl (aI kt))), (h2, .inl (cI, 20, .inl (aI ks)))] (fun u => some (.int (iI (bI (decide (km < 20)))))) (fun u => u.1 = (if km < 20 then upZ kt km t9 else kt) ∧ u.2.1 = (if km < 20 then upZ ks km s9 else ks) ∧ u.2.2 = if km < 20 then km + 1 else km) (fun u => [(h0, .inr (1, [.ref h1, .ref h2, .int (iI (u.2.2)), .long (lI (ku)), .long (lI (kl))])), (h1, .inl (cI, 20, .inl (aI u.1))), (h2, .inl (cI, 20, .inl (aI u.2.1)))]) := by
  refine jMu_of (cc := cX1_add) (n := 3) (ret := (some .boolean)) (by decide) rfl (Nat.le_of_ble_eq_true rfl) ?_
  intro p e s m below meth c A ls args Q hQ F hA hZ hP hK hD hS hl
  obtain ⟨hx, hb, hr, hml, hown, hts, hlocks⟩ := F
  have hown : s.vm.findClass RX1 = some m.cls := hown
  have hl : lv_has ls 3 [(0, .ref h0), (1, .int (iI (t9))), (2, .int (iI (s9)))] := hl
  have L18 := hts (.fieldLink RX1 18 "TinMouse$Keys" "many" "I") (by decide +kernel)
  have L9 := hts (.fieldLink RX1 9 "TinMouse$Keys" "turns" "[I") (by decide +kernel)
  have IRX10 := hts (.initialized RX10) (by decide +kernel)
  have STyX10_set := hts (.static yX10_set) (by decide +kernel)
  have L15 := hts (.fieldLink RX1 15 "TinMouse$Keys" "steps" "[I") (by decide +kernel)
  have UX1 : ∀ w ∈ wsX10, w ∈ wsX1_add := fun w h => List.mem_cons_of_mem _ (List.mem_append_right _ h)
  refine lv_aload_n hx hb dX1_add_0 rfl (lv_at hl 0 rfl) ?_
  refine va_get (D := D) (ci := 1) (v := .int (iI (km))) (C := RX1) (T := TX1) (N := 5) hx hb hts UX1 hown hK hP 0 rfl rfl 2 (by decide) L18 (fun _ h9 => h9) rfl dX1_add_1 ?_
  refine lv_bipush (v := iI (20)) hx hb dX1_add_4 (by decide) ?_
  refine j_icmp_lt (tgt := 11) hx hb (by omega) dX1_add_6 (by decide) (fun c_6 => ?_) (fun c_6 => ?_)
  · refine lv_aload_n hx hb dX1_add_11 rfl (lv_at hl 0 rfl) ?_
    refine va_get (D := D) (ci := 1) (v := .ref h1) (C := RX1) (T := TX1) (N := 5) hx hb hts UX1 hown hK hP 0 rfl rfl 0 (by decide) L9 (fun _ h9 => h9) rfl dX1_add_12 ?_
    refine lv_aload_n hx hb dX1_add_15 rfl (lv_at hl 0 rfl) ?_
    refine va_get (D := D) (ci := 1) (v := .int (iI (km))) (C := RX1) (T := TX1) (N := 5) hx hb hts UX1 hown hK hP 0 rfl rfl 2 (by decide) L18 (fun _ h9 => h9) rfl dX1_add_16 ?_
    refine lv_iload_n hx hb dX1_add_19 rfl (lv_at hl 1 rfl) ?_
    refine j_muv (va_runSN (As := [.ref h1, .int (iI (km)), .int (iI (t9))]) (rest := []) ⟨hx, hb, hml, hown, hts⟩ (c_X10_set l D cI cZ z h1 km t9 kt 20 (by first | assumption | omega) (by first | assumption | omega) s.heap.size) ⟨va_cnB 3 hts gX1_add_X10_set_n22 rfl rfl rfl (hZ.2.2.2.2.2 _ (List.mem_of_getElem? (i := 23) rfl)) IRX10 hsX10_set ⟨Nat.le_of_ble_eq_true rfl, Nat.le_of_ble_eq_true rfl⟩, STyX10_set, trivial⟩ (j_preS hP hD hK hS hZ hA [1] rfl rfl) rfl rfl hl.1 rfl (lv_room (Nat.le_of_ble_eq_true rfl)) dX1_add_20 ⟨Nat.zero_le _, Nat.zero_le _⟩) hP hD hS hA [1] rfl (fun _ => rfl) (fun g2_1 H locs hw_20 hP hD hS => ?_)
    have hP : va_P D vwCl [(h0, .inr (1, [.ref h1, .ref h2, .int (iI (km)), .long (lI (ku)), .long (lI (kl))])), (h1, .inl (cI, 20, .inl (aI g2_1))), (h2, .inl (cI, 20, .inl (aI ks)))] H := hP
    have hD : va_D A [(h0, .inr (1, [.ref h1, .ref h2, .int (iI (km)), .long (lI (ku)), .long (lI (kl))])), (h1, .inl (cI, 20, .inl (aI g2_1))), (h2, .inl (cI, 20, .inl (aI ks)))] := hD
    refine lv_aload_n hx hb dX1_add_23 rfl (lv_at hl 0 rfl) ?_
    refine va_get (D := D) (ci := 1) (v := .ref h2) (C := RX1) (T := TX1) (N := 5) hx hb hts UX1 hown hK hP 0 rfl rfl 1 (by decide) L15 (fun _ h9 => h9) rfl dX1_add_24 ?_
    refine lv_aload_n hx hb dX1_add_27 rfl (lv_at hl 0 rfl) ?_
    refine va_get (D := D) (ci := 1) (v := .int (iI (km))) (C := RX1) (T := TX1) (N := 5) hx hb hts UX1 hown hK hP 0 rfl rfl 2 (by decide) L18 (fun _ h9 => h9) rfl dX1_add_28 ?_
    refine lv_iload_n hx hb dX1_add_31 rfl (lv_at hl 2 rfl) ?_
    refine j_muv (va_runSN (As := [.ref h2, .int (iI (km)), .int (iI (s9))]) (rest := []) ⟨hx, hb, hml, hown, hts⟩ (c_X10_set l D cI cZ z h2 km s9 ks 20 (by first | assumption | omega) (by first | assumption | omega) H.size) ⟨va_cnB 3 hts gX1_add_X10_set_n22 rfl rfl rfl (hZ.2.2.2.2.2 _ (List.mem_of_getElem? (i := 23) rfl)) IRX10 hsX10_set ⟨Nat.le_of_ble_eq_true rfl, Nat.le_of_ble_eq_true rfl⟩, STyX10_set, trivial⟩ (j_preS hP hD hK hS hZ hA [2] rfl rfl) rfl rfl hl.1 rfl (lv_room (Nat.le_of_ble_eq_true rfl)) dX1_add_32 ⟨Nat.zero_le _, Nat.zero_le _⟩) hP hD hS hA [2] rfl (fun _ => rfl) (fun g2_2 H locs hw_32 hP hD hS => ?_)
    have hP : va_P D vwCl [(h0, .inr (1, [.ref h1, .ref h2, .int (iI (km)), .long (lI (ku)), .long (lI (kl))])), (h1, .inl (cI, 20, .inl (aI g2_1))), (h2, .inl (cI, 20, .inl (aI g2_2)))] H := hP
    have hD : va_D A [(h0, .inr (1, [.ref h1, .ref h2, .int (iI (km)), .long (lI (ku)), .long (lI (kl))])), (h1, .inl (cI, 20, .inl (aI g2_1))), (h2, .inl (cI, 20, .inl (aI g2_2)))] := hD
    refine lv_aload_n hx hb dX1_add_35 rfl (lv_at hl 0 rfl) ?_
    refine lv_dup hx hb dX1_add_36 rfl ?_
    refine va_get (D := D) (ci := 1) (v := .int (iI (km))) (C := RX1) (T := TX1) (N := 5) hx hb hts UX1 hown hK hP 0 rfl rfl 2 (by decide) L18 (fun _ h9 => h9) rfl dX1_add_37 ?_
    refine lv_iconst (v := iI (1)) hx hb dX1_add_40 rfl ?_
    refine j_iadd hx hb dX1_add_41 ?_
    refine va_put (D := D) (ci := 1) (v := .int (iI (km + 1))) (ty := .int) (C := RX1) (T := TX1) (N := 5) hx hb hts UX1 tyX1 tyX1_ok nmX1 hown hK hP hD hS 0 rfl rfl 2 (by decide) L18 (fun _ h9 => h9) rfl rfl rfl rfl (Nat.le_of_ble_eq_true rfl) dX1_add_42 (fun H locs hP hD hS => ?_)
    have hP : va_P D vwCl [(h0, .inr (1, [.ref h1, .ref h2, .int (iI (km + 1)), .long (lI (ku)), .long (lI (kl))])), (h1, .inl (cI, 20, .inl (aI g2_1))), (h2, .inl (cI, 20, .inl (aI g2_2)))] H := hP
    have hD : va_D A [(h0, .inr (1, [.ref h1, .ref h2, .int (iI (km + 1)), .long (lI (ku)), .long (lI (kl))])), (h1, .inl (cI, 20, .inl (aI g2_1))), (h2, .inl (cI, 20, .inl (aI g2_2)))] := hD
    refine lv_iconst (v := iI (1)) hx hb dX1_add_45 rfl ?_
    rw [hQ]; exact jm_zret (g2_1, g2_2, km + 1) hx hb hr hlocks jn_1 hS hP (jo_i (by rw [decide_eq_true (by omega)]; rfl)) (by (try dsimp only); exact ⟨by rw [if_pos (by omega), hw_20, setI_in (by omega)], by rw [if_pos (by omega), hw_32, setI_in (by omega)], (if_pos (by omega)).symm⟩) dX1_add_46
  · refine lv_iconst (v := iI (0)) hx hb dX1_add_9 rfl ?_
    rw [hQ]; exact jm_zret (kt, ks, km) hx hb hr hlocks jn_0 hS hP (jo_i (by rw [decide_eq_false (by omega)]; rfl)) (by (try dsimp only); exact ⟨(if_neg (by omega)).symm, (if_neg (by omega)).symm, (if_neg (by omega)).symm⟩) dX1_add_10
abbrev rmX1_fitLine : Room := { frames := 1, cells := 0, slots := 0, locals := 21 }
set_option maxHeartbeats 4000000 in
set_option maxRecDepth 100000 in
theorem c_X1_fitLine (l : Launch) (D : va_G) (cI cZ : ClassId) (z : jZT) (h0 h1 h2 : Nat) (t km ku kl : Int) (kt ks : Int → Int) (b : Bool) (n9 : Nat) (hkn : km = (n9 : Int)) (hK9 : KeyI kt ks n9) (ht : 0 ≤ t ∧ t ≤ 99) : jMu (S := Int × Int) l yX1_fitLine wsX1_fitLine rmX1_fitLine [.ref h0, .int (iI (t)), .int (iI (bI b))] D cI cZ z [(h0, .inr (1, [.ref h1, .ref h2, .int (iI (km)), .long (lI (ku)), .long (lI (kl))])), (h1, .inl (cI, 20, .inl (aI kt))), (h2, .inl (cI, 20, .inl (aI ks)))] (fun u => some (.int (iI (bI (decide (0 < kLo kt n9)))))) (fun u => u.1 = kUp kt ks n9 t b ∧ u.2 = kLo kt n9) (fun u => [(h0, .inr (1, [.ref h1, .ref h2, .int (iI (km)), .long (lI (u.1)), .long (lI (u.2))])), (h1, .inl (cI, 20, .inl (aI kt))), (h2, .inl (cI, 20, .inl (aI ks)))]) := by
  refine jMu_of (cc := cX1_fitLine) (n := 13) (ret := (some .boolean)) (by decide) rfl (Nat.le_of_ble_eq_true rfl) ?_
  intro p e s m below meth c A ls args Q hQ F hA hZ hP hK hD hS hl
  obtain ⟨hx, hb, hr, hml, hown, hts, hlocks⟩ := F
  have hown : s.vm.findClass RX1 = some m.cls := hown
  have hl : lv_has ls 13 [(0, .ref h0), (1, .int (iI (t))), (2, .int (iI (bI b)))] := hl
  have L18 := hts (.fieldLink RX1 18 "TinMouse$Keys" "many" "I") (by decide +kernel)
  have L30 := hts (.fieldLink RX1 30 "TinMouse$Keys" "lower" "J") (by decide +kernel)
  have L34 := hts (.fieldLink RX1 34 "TinMouse$Keys" "upper" "J") (by decide +kernel)
  have L9 := hts (.fieldLink RX1 9 "TinMouse$Keys" "turns" "[I") (by decide +kernel)
  have IRX10 := hts (.initialized RX10) (by decide +kernel)
  have STyX10_at := hts (.static yX10_at) (by decide +kernel)
  have L15 := hts (.fieldLink RX1 15 "TinMouse$Keys" "steps" "[I") (by decide +kernel)
  have UX1 : ∀ w ∈ wsX10, w ∈ wsX1_fitLine := fun w h => List.mem_cons_of_mem _ (List.mem_append_right _ h)
  refine lv_lconst (v := lI (0)) hx hb dX1_fitLine_0 (by decide) ?_
  refine lv_lstore_n (lv' := [(3, .long (lI (0))), (0, .ref h0), (1, .int (iI (t))), (2, .int (iI (bI b)))]) hx hb dX1_fitLine_1 rfl hl (by decide) rfl (fun ls hl => ?_)
  refine lv_lconst (v := lI (0)) hx hb dX1_fitLine_2 (by decide) ?_
  refine lv_lstore (lv' := [(5, .long (lI (0))), (3, .long (lI (0))), (0, .ref h0), (1, .int (iI (t))), (2, .int (iI (bI b)))]) hx hb dX1_fitLine_3 hl (by decide) rfl (fun ls hl => ?_)
  refine lv_lconst (v := lI (0)) hx hb dX1_fitLine_5 (by decide) ?_
  refine lv_lstore (lv' := [(7, .long (lI (0))), (5, .long (lI (0))), (3, .long (lI (0))), (0, .ref h0), (1, .int (iI (t))), (2, .int (iI (bI b)))]) hx hb dX1_fitLine_6 hl (by decide) rfl (fun ls hl => ?_)
  refine lv_lconst (v := lI (0)) hx hb dX1_fitLine_8 (by decide) ?_
  refine lv_lstore (lv' := [(9, .long (lI (0))), (7, .long (lI (0))), (5, .long (lI (0))), (3, .long (lI (0))), (0, .ref h0), (1, .int (iI (t))), (2, .int (iI (bI b)))]) hx hb dX1_fitLine_9 hl (by decide) rfl (fun ls hl => ?_)
  refine lv_iconst (v := iI (0)) hx hb dX1_fitLine_11 rfl ?_
  refine lv_istore (lv' := [(11, .int (iI (0))), (9, .long (lI (0))), (7, .long (lI (0))), (5, .long (lI (0))), (3, .long (lI (0))), (0, .ref h0), (1, .int (iI (t))), (2, .int (iI (bI b)))]) hx hb dX1_fitLine_12 hl (by decide) rfl (fun ls hl => ?_)
  have loop_14 : ∀ (fuel_14 : Nat) (i : Int) (x : Int) (y : Int) (xx : Int) (xy : Int) (n : Nat), (i = (n : Int) ∧ n ≤ n9 ∧ x = kX kt n ∧ y = kX ks n ∧ xx = kXX kt n ∧ xy = kXY kt ks n) → (n9 - n) < fuel_14 → ∀ (H : Heap) (locs : List Loc), va_P D vwCl [(h0, .inr (1, [.ref h1, .ref h2, .int (iI (km)), .long (lI (ku)), .long (lI (kl))])), (h1, .inl (cI, 20, .inl (aI kt))), (h2, .inl (cI, 20, .inl (aI ks)))] H → va_D A [(h0, .inr (1, [.ref h1, .ref h2, .int (iI (km)), .long (lI (ku)), .long (lI (kl))])), (h1, .inl (cI, 20, .inl (aI kt))), (h2, .inl (cI, 20, .inl (aI ks)))] → va_S A s.heap H locs → ∀ ls : Array Slot, lv_has ls 13 [(0, .ref h0), (1, .int (iI (t))), (2, .int (iI (bI b))), (3, .long (lI (x))), (5, .long (lI (y))), (7, .long (lI (xx))), (9, .long (lI (xy))), (11, .int (iI (i)))] → W p l e rmX1_fitLine s m args below meth c H locs 0 0 Q (F0 m 14 ls []) := by
    intro fuel_14
    induction fuel_14 with
    | zero => intro i x y xx xy n hI9 hm9; exact absurd hm9 (Nat.not_lt_zero _)
    | succ fuel_14 ih_14 =>
      intro i x y xx xy n hI_14 hm_14 H locs hP hD hS ls hl
      obtain ⟨hi1, hi2, hi3, hi4, hi5, hi6⟩ := hI_14
      refine lv_iload hx hb dX1_fitLine_14 (lv_at hl 7 rfl) ?_
      refine lv_aload_n hx hb dX1_fitLine_16 rfl (lv_at hl 0 rfl) ?_
      refine va_get (D := D) (ci := 1) (v := .int (iI (km))) (C := RX1) (T := TX1) (N := 5) hx hb hts UX1 hown hK hP 0 rfl rfl 2 (by decide) L18 (fun _ h9 => h9) rfl dX1_fitLine_17 ?_
      refine j_icmp_ge (tgt := 107) hx hb (by omega) dX1_fitLine_20 (by decide) (fun c_20 => ?_) (fun c_20 => ?_)
      · have hnn : n = n9 := by omega
        subst hnn
        have hlr := kLo_rng hK9
        have hlo : km * xx - x * x = kLo kt n := by unfold kLo; rw [hkn, hi3, hi5]
        have hsl : km * xy - x * y = kSl kt ks n := by unfold kSl; rw [hkn, hi3, hi4, hi6]
        refine lv_aload_n hx hb dX1_fitLine_107 rfl (lv_at hl 0 rfl) ?_
        refine lv_aload_n hx hb dX1_fitLine_108 rfl (lv_at hl 0 rfl) ?_
        refine va_get (D := D) (ci := 1) (v := .int (iI (km))) (C := RX1) (T := TX1) (N := 5) hx hb hts UX1 hown hK hP 0 rfl rfl 2 (by decide) L18 (fun _ h9 => h9) rfl dX1_fitLine_109 ?_
        refine j_i2l hx hb (by omega) dX1_fitLine_112 ?_
        refine lv_lload hx hb dX1_fitLine_113 (lv_at hl 5 rfl) ?_
        refine j_lmul hx hb dX1_fitLine_115 ?_
        refine lv_lload_n hx hb dX1_fitLine_116 rfl (lv_at hl 3 rfl) ?_
        refine lv_lload_n hx hb dX1_fitLine_117 rfl (lv_at hl 3 rfl) ?_
        refine j_lmul hx hb dX1_fitLine_118 ?_
        refine j_lsub hx hb dX1_fitLine_119 ?_
        refine va_put (D := D) (ci := 1) (v := .long (lI ((km * xx) - (x * x)))) (ty := .long) (C := RX1) (T := TX1) (N := 5) hx hb hts UX1 tyX1 tyX1_ok nmX1 hown hK hP hD hS 0 rfl rfl 4 (by decide) L30 (fun _ h9 => h9) rfl rfl rfl rfl (Nat.le_of_ble_eq_true rfl) dX1_fitLine_120 (fun H locs hP hD hS => ?_)
        have hP : va_P D vwCl [(h0, .inr (1, [.ref h1, .ref h2, .int (iI (km)), .long (lI (ku)), .long (lI ((km * xx) - (x * x)))])), (h1, .inl (cI, 20, .inl (aI kt))), (h2, .inl (cI, 20, .inl (aI ks)))] H := hP
        have hD : va_D A [(h0, .inr (1, [.ref h1, .ref h2, .int (iI (km)), .long (lI (ku)), .long (lI ((km * xx) - (x * x)))])), (h1, .inl (cI, 20, .inl (aI kt))), (h2, .inl (cI, 20, .inl (aI ks)))] := hD
        refine lv_aload_n hx hb dX1_fitLine_123 rfl (lv_at hl 0 rfl) ?_
        refine va_get (D := D) (ci := 1) (v := .int (iI (km))) (C := RX1) (T := TX1) (N := 5) hx hb hts UX1 hown hK hP 0 rfl rfl 2 (by decide) L18 (fun _ h9 => h9) rfl dX1_fitLine_124 ?_
        refine j_i2l hx hb (by omega) dX1_fitLine_127 ?_
        refine lv_lload hx hb dX1_fitLine_128 (lv_at hl 6 rfl) ?_
        refine j_lmul hx hb dX1_fitLine_130 ?_
        refine lv_lload_n hx hb dX1_fitLine_131 rfl (lv_at hl 3 rfl) ?_
        refine lv_lload hx hb dX1_fitLine_132 (lv_at hl 4 rfl) ?_
        refine j_lmul hx hb dX1_fitLine_134 ?_
        refine j_lsub hx hb dX1_fitLine_135 ?_
        refine lv_lstore (lv' := [(11, .long (lI ((km * xy) - (x * y)))), (0, .ref h0), (1, .int (iI (t))), (2, .int (iI (bI b))), (3, .long (lI (x))), (5, .long (lI (y))), (7, .long (lI (xx))), (9, .long (lI (xy)))]) hx hb dX1_fitLine_136 hl (by decide) rfl (fun ls hl => ?_)
        refine lv_aload_n hx hb dX1_fitLine_138 rfl (lv_at hl 1 rfl) ?_
        refine lv_iload_n hx hb dX1_fitLine_139 rfl (lv_at hl 3 rfl) ?_
        refine j_ifeq_b (tgt := 162) hx hb dX1_fitLine_140 (by decide) (fun c_140 => ?_) (fun c_140 => ?_)
        · refine lv_lload hx hb dX1_fitLine_162 (lv_at hl 0 rfl) ?_
          refine va_put (D := D) (ci := 1) (v := .long (lI ((km * xy) - (x * y)))) (ty := .long) (C := RX1) (T := TX1) (N := 5) hx hb hts UX1 tyX1 tyX1_ok nmX1 hown hK hP hD hS 0 rfl rfl 3 (by decide) L34 (fun _ h9 => h9) rfl rfl rfl rfl (Nat.le_of_ble_eq_true rfl) dX1_fitLine_164 (fun H locs hP hD hS => ?_)
          have hP : va_P D vwCl [(h0, .inr (1, [.ref h1, .ref h2, .int (iI (km)), .long (lI ((km * xy) - (x * y))), .long (lI ((km * xx) - (x * x)))])), (h1, .inl (cI, 20, .inl (aI kt))), (h2, .inl (cI, 20, .inl (aI ks)))] H := hP
          have hD : va_D A [(h0, .inr (1, [.ref h1, .ref h2, .int (iI (km)), .long (lI ((km * xy) - (x * y))), .long (lI ((km * xx) - (x * x)))])), (h1, .inl (cI, 20, .inl (aI kt))), (h2, .inl (cI, 20, .inl (aI ks)))] := hD
          refine lv_aload_n hx hb dX1_fitLine_167 rfl (lv_at hl 1 rfl) ?_
          refine va_get (D := D) (ci := 1) (v := .long (lI ((km * xx) - (x * x)))) (C := RX1) (T := TX1) (N := 5) hx hb hts UX1 hown hK hP 0 rfl rfl 4 (by decide) L30 (fun _ h9 => h9) rfl dX1_fitLine_168 ?_
          refine lv_lconst (v := lI (0)) hx hb dX1_fitLine_171 (by decide) ?_
          refine j_lcmp hx hb (by omega) dX1_fitLine_172 ?_
          refine j_if_le (tgt := 180) hx hb (by omega) dX1_fitLine_173 (by decide) (fun c_173 => ?_) (fun c_173 => ?_)
          · refine lv_iconst (v := iI (0)) hx hb dX1_fitLine_180 rfl ?_
            rw [hQ]; exact jm_zret ((km * xy) - (x * y), (km * xx) - (x * x)) hx hb hr hlocks jn_0 hS hP (jo_i (by first | (rw [decide_eq_false (by omega)]; rfl) | (rw [decide_eq_true (by omega)]; rfl))) (by (try dsimp only); refine ⟨?_, hlo⟩; unfold kUp; first | (rw [if_neg (by rw [c_140]; decide)]; exact hsl) | (rw [if_pos c_140, hsl, hi3, hi4, hi5, hi6])) dX1_fitLine_181
          · refine lv_iconst (v := iI (1)) hx hb dX1_fitLine_176 rfl ?_
            refine lv_goto (tgt := 181) hx hb dX1_fitLine_177 (by decide) ?_
            rw [hQ]; exact jm_zret ((km * xy) - (x * y), (km * xx) - (x * x)) hx hb hr hlocks jn_1 hS hP (jo_i (by first | (rw [decide_eq_false (by omega)]; rfl) | (rw [decide_eq_true (by omega)]; rfl))) (by (try dsimp only); refine ⟨?_, hlo⟩; unfold kUp; first | (rw [if_neg (by rw [c_140]; decide)]; exact hsl) | (rw [if_pos c_140, hsl, hi3, hi4, hi5, hi6])) dX1_fitLine_181
        · refine lv_lload hx hb dX1_fitLine_143 (lv_at hl 5 rfl) ?_
          refine lv_lload hx hb dX1_fitLine_145 (lv_at hl 6 rfl) ?_
          refine j_lmul hx hb dX1_fitLine_147 ?_
          refine lv_lload_n hx hb dX1_fitLine_148 rfl (lv_at hl 4 rfl) ?_
          refine lv_lload hx hb dX1_fitLine_149 (lv_at hl 7 rfl) ?_
          refine j_lmul hx hb dX1_fitLine_151 ?_
          refine j_lsub hx hb dX1_fitLine_152 ?_
          refine lv_lload hx hb dX1_fitLine_153 (lv_at hl 0 rfl) ?_
          refine lv_iload_n hx hb dX1_fitLine_155 rfl (lv_at hl 2 rfl) ?_
          refine j_i2l hx hb (by omega) dX1_fitLine_156 ?_
          refine j_lmul hx hb dX1_fitLine_157 ?_
          refine j_ladd hx hb dX1_fitLine_158 ?_
          refine lv_goto (tgt := 164) hx hb dX1_fitLine_159 (by decide) ?_
          refine va_put (D := D) (ci := 1) (v := .long (lI (((y * xx) - (x * xy)) + (((km * xy) - (x * y)) * t)))) (ty := .long) (C := RX1) (T := TX1) (N := 5) hx hb hts UX1 tyX1 tyX1_ok nmX1 hown hK hP hD hS 0 rfl rfl 3 (by decide) L34 (fun _ h9 => h9) rfl rfl rfl rfl (Nat.le_of_ble_eq_true rfl) dX1_fitLine_164 (fun H locs hP hD hS => ?_)
          have hP : va_P D vwCl [(h0, .inr (1, [.ref h1, .ref h2, .int (iI (km)), .long (lI (((y * xx) - (x * xy)) + (((km * xy) - (x * y)) * t))), .long (lI ((km * xx) - (x * x)))])), (h1, .inl (cI, 20, .inl (aI kt))), (h2, .inl (cI, 20, .inl (aI ks)))] H := hP
          have hD : va_D A [(h0, .inr (1, [.ref h1, .ref h2, .int (iI (km)), .long (lI (((y * xx) - (x * xy)) + (((km * xy) - (x * y)) * t))), .long (lI ((km * xx) - (x * x)))])), (h1, .inl (cI, 20, .inl (aI kt))), (h2, .inl (cI, 20, .inl (aI ks)))] := hD
          refine lv_aload_n hx hb dX1_fitLine_167 rfl (lv_at hl 1 rfl) ?_
          refine va_get (D := D) (ci := 1) (v := .long (lI ((km * xx) - (x * x)))) (C := RX1) (T := TX1) (N := 5) hx hb hts UX1 hown hK hP 0 rfl rfl 4 (by decide) L30 (fun _ h9 => h9) rfl dX1_fitLine_168 ?_
          refine lv_lconst (v := lI (0)) hx hb dX1_fitLine_171 (by decide) ?_
          refine j_lcmp hx hb (by omega) dX1_fitLine_172 ?_
          refine j_if_le (tgt := 180) hx hb (by omega) dX1_fitLine_173 (by decide) (fun c_173_1 => ?_) (fun c_173_1 => ?_)
          · refine lv_iconst (v := iI (0)) hx hb dX1_fitLine_180 rfl ?_
            rw [hQ]; exact jm_zret (((y * xx) - (x * xy)) + (((km * xy) - (x * y)) * t), (km * xx) - (x * x)) hx hb hr hlocks jn_0 hS hP (jo_i (by first | (rw [decide_eq_false (by omega)]; rfl) | (rw [decide_eq_true (by omega)]; rfl))) (by (try dsimp only); refine ⟨?_, hlo⟩; unfold kUp; first | (rw [if_neg (by rw [c_140]; decide)]; exact hsl) | (rw [if_pos c_140, hsl, hi3, hi4, hi5, hi6])) dX1_fitLine_181
          · refine lv_iconst (v := iI (1)) hx hb dX1_fitLine_176 rfl ?_
            refine lv_goto (tgt := 181) hx hb dX1_fitLine_177 (by decide) ?_
            rw [hQ]; exact jm_zret (((y * xx) - (x * xy)) + (((km * xy) - (x * y)) * t), (km * xx) - (x * x)) hx hb hr hlocks jn_1 hS hP (jo_i (by first | (rw [decide_eq_false (by omega)]; rfl) | (rw [decide_eq_true (by omega)]; rfl))) (by (try dsimp only); refine ⟨?_, hlo⟩; unfold kUp; first | (rw [if_neg (by rw [c_140]; decide)]; exact hsl) | (rw [if_pos c_140, hsl, hi3, hi4, hi5, hi6])) dX1_fitLine_181
      · have hke := hK9.2 i (by omega) (by omega)
        refine lv_lload_n hx hb dX1_fitLine_23 rfl (lv_at hl 3 rfl) ?_
        refine lv_aload_n hx hb dX1_fitLine_24 rfl (lv_at hl 0 rfl) ?_
        refine va_get (D := D) (ci := 1) (v := .ref h1) (C := RX1) (T := TX1) (N := 5) hx hb hts UX1 hown hK hP 0 rfl rfl 0 (by decide) L9 (fun _ h9 => h9) rfl dX1_fitLine_25 ?_
        refine lv_iload hx hb dX1_fitLine_28 (lv_at hl 7 rfl) ?_
        refine j_rd (va_runSN (As := [.ref h1, .int (iI (i))]) (rest := [.long (lI (x))]) ⟨hx, hb, hml, hown, hts⟩ (c_X10_at l D cI cZ z h1 i kt 20 (by first | assumption | omega) (by first | assumption | omega) H.size) ⟨va_cnB 2 hts gX1_fitLine_X10_at_n26 rfl rfl rfl (hZ.2.2.2.2.2 _ (List.mem_of_getElem? (i := 24) rfl)) IRX10 hsX10_at ⟨Nat.le_of_ble_eq_true rfl, Nat.le_of_ble_eq_true rfl⟩, STyX10_at, trivial⟩ (j_preS hP hD hK hS hZ hA [1] rfl rfl) rfl rfl hl.1 rfl (lv_room (Nat.le_of_ble_eq_true rfl)) dX1_fitLine_30 ⟨Nat.zero_le _, Nat.zero_le _⟩) ?_
        refine j_top (fun a9 ea9 => ?_)
        rw [atI_in (by omega)] at ea9
        refine j_i2l hx hb (by omega) dX1_fitLine_33 ?_
        refine j_ladd hx hb dX1_fitLine_34 ?_
        refine lv_lstore_n (lv' := [(3, .long (lI (x + a9))), (0, .ref h0), (1, .int (iI (t))), (2, .int (iI (bI b))), (5, .long (lI (y))), (7, .long (lI (xx))), (9, .long (lI (xy))), (11, .int (iI (i)))]) hx hb dX1_fitLine_35 rfl hl (by decide) rfl (fun ls hl => ?_)
        refine lv_lload hx hb dX1_fitLine_36 (lv_at hl 4 rfl) ?_
        refine lv_aload_n hx hb dX1_fitLine_38 rfl (lv_at hl 1 rfl) ?_
        refine va_get (D := D) (ci := 1) (v := .ref h2) (C := RX1) (T := TX1) (N := 5) hx hb hts UX1 hown hK hP 0 rfl rfl 1 (by decide) L15 (fun _ h9 => h9) rfl dX1_fitLine_39 ?_
        refine lv_iload hx hb dX1_fitLine_42 (lv_at hl 7 rfl) ?_
        refine j_rd (va_runSN (As := [.ref h2, .int (iI (i))]) (rest := [.long (lI (y))]) ⟨hx, hb, hml, hown, hts⟩ (c_X10_at l D cI cZ z h2 i ks 20 (by first | assumption | omega) (by first | assumption | omega) H.size) ⟨va_cnB 2 hts gX1_fitLine_X10_at_n26 rfl rfl rfl (hZ.2.2.2.2.2 _ (List.mem_of_getElem? (i := 24) rfl)) IRX10 hsX10_at ⟨Nat.le_of_ble_eq_true rfl, Nat.le_of_ble_eq_true rfl⟩, STyX10_at, trivial⟩ (j_preS hP hD hK hS hZ hA [2] rfl rfl) rfl rfl hl.1 rfl (lv_room (Nat.le_of_ble_eq_true rfl)) dX1_fitLine_44 ⟨Nat.zero_le _, Nat.zero_le _⟩) ?_
        refine j_top (fun b9 eb9 => ?_)
        rw [atI_in (by omega)] at eb9
        refine j_i2l hx hb (by omega) dX1_fitLine_47 ?_
        refine j_ladd hx hb dX1_fitLine_48 ?_
        refine lv_lstore (lv' := [(5, .long (lI (y + b9))), (3, .long (lI (x + a9))), (0, .ref h0), (1, .int (iI (t))), (2, .int (iI (bI b))), (7, .long (lI (xx))), (9, .long (lI (xy))), (11, .int (iI (i)))]) hx hb dX1_fitLine_49 hl (by decide) rfl (fun ls hl => ?_)
        refine lv_lload hx hb dX1_fitLine_51 (lv_at hl 5 rfl) ?_
        refine lv_aload_n hx hb dX1_fitLine_53 rfl (lv_at hl 2 rfl) ?_
        refine va_get (D := D) (ci := 1) (v := .ref h1) (C := RX1) (T := TX1) (N := 5) hx hb hts UX1 hown hK hP 0 rfl rfl 0 (by decide) L9 (fun _ h9 => h9) rfl dX1_fitLine_54 ?_
        refine lv_iload hx hb dX1_fitLine_57 (lv_at hl 7 rfl) ?_
        refine j_rd (va_runSN (As := [.ref h1, .int (iI (i))]) (rest := [.long (lI (xx))]) ⟨hx, hb, hml, hown, hts⟩ (c_X10_at l D cI cZ z h1 i kt 20 (by first | assumption | omega) (by first | assumption | omega) H.size) ⟨va_cnB 2 hts gX1_fitLine_X10_at_n26 rfl rfl rfl (hZ.2.2.2.2.2 _ (List.mem_of_getElem? (i := 24) rfl)) IRX10 hsX10_at ⟨Nat.le_of_ble_eq_true rfl, Nat.le_of_ble_eq_true rfl⟩, STyX10_at, trivial⟩ (j_preS hP hD hK hS hZ hA [1] rfl rfl) rfl rfl hl.1 rfl (lv_room (Nat.le_of_ble_eq_true rfl)) dX1_fitLine_59 ⟨Nat.zero_le _, Nat.zero_le _⟩) ?_
        refine j_top (fun c9 ec9 => ?_)
        rw [atI_in (by omega)] at ec9
        refine lv_aload_n hx hb dX1_fitLine_62 rfl (lv_at hl 2 rfl) ?_
        refine va_get (D := D) (ci := 1) (v := .ref h1) (C := RX1) (T := TX1) (N := 5) hx hb hts UX1 hown hK hP 0 rfl rfl 0 (by decide) L9 (fun _ h9 => h9) rfl dX1_fitLine_63 ?_
        refine lv_iload hx hb dX1_fitLine_66 (lv_at hl 7 rfl) ?_
        refine j_rd (va_runSN (As := [.ref h1, .int (iI (i))]) (rest := [.int (iI (c9)), .long (lI (xx))]) ⟨hx, hb, hml, hown, hts⟩ (c_X10_at l D cI cZ z h1 i kt 20 (by first | assumption | omega) (by first | assumption | omega) H.size) ⟨va_cnB 2 hts gX1_fitLine_X10_at_n26 rfl rfl rfl (hZ.2.2.2.2.2 _ (List.mem_of_getElem? (i := 24) rfl)) IRX10 hsX10_at ⟨Nat.le_of_ble_eq_true rfl, Nat.le_of_ble_eq_true rfl⟩, STyX10_at, trivial⟩ (j_preS hP hD hK hS hZ hA [1] rfl rfl) rfl rfl hl.1 rfl (lv_room (Nat.le_of_ble_eq_true rfl)) dX1_fitLine_68 ⟨Nat.zero_le _, Nat.zero_le _⟩) ?_
        refine j_top (fun d9 ed9 => ?_)
        rw [atI_in (by omega)] at ed9
        have hm1 := mul_b (a := c9) (b := d9) (A := 9) (B := 9) (by omega) (by omega)
        refine j_imul hx hb dX1_fitLine_71 ?_
        refine j_i2l hx hb (by omega) dX1_fitLine_72 ?_
        refine j_ladd hx hb dX1_fitLine_73 ?_
        refine lv_lstore (lv' := [(7, .long (lI (xx + (c9 * d9)))), (5, .long (lI (y + b9))), (3, .long (lI (x + a9))), (0, .ref h0), (1, .int (iI (t))), (2, .int (iI (bI b))), (9, .long (lI (xy))), (11, .int (iI (i)))]) hx hb dX1_fitLine_74 hl (by decide) rfl (fun ls hl => ?_)
        refine lv_lload hx hb dX1_fitLine_76 (lv_at hl 6 rfl) ?_
        refine lv_aload_n hx hb dX1_fitLine_78 rfl (lv_at hl 3 rfl) ?_
        refine va_get (D := D) (ci := 1) (v := .ref h1) (C := RX1) (T := TX1) (N := 5) hx hb hts UX1 hown hK hP 0 rfl rfl 0 (by decide) L9 (fun _ h9 => h9) rfl dX1_fitLine_79 ?_
        refine lv_iload hx hb dX1_fitLine_82 (lv_at hl 7 rfl) ?_
        refine j_rd (va_runSN (As := [.ref h1, .int (iI (i))]) (rest := [.long (lI (xy))]) ⟨hx, hb, hml, hown, hts⟩ (c_X10_at l D cI cZ z h1 i kt 20 (by first | assumption | omega) (by first | assumption | omega) H.size) ⟨va_cnB 2 hts gX1_fitLine_X10_at_n26 rfl rfl rfl (hZ.2.2.2.2.2 _ (List.mem_of_getElem? (i := 24) rfl)) IRX10 hsX10_at ⟨Nat.le_of_ble_eq_true rfl, Nat.le_of_ble_eq_true rfl⟩, STyX10_at, trivial⟩ (j_preS hP hD hK hS hZ hA [1] rfl rfl) rfl rfl hl.1 rfl (lv_room (Nat.le_of_ble_eq_true rfl)) dX1_fitLine_84 ⟨Nat.zero_le _, Nat.zero_le _⟩) ?_
        refine j_top (fun e9 ee9 => ?_)
        rw [atI_in (by omega)] at ee9
        refine lv_aload_n hx hb dX1_fitLine_87 rfl (lv_at hl 3 rfl) ?_
        refine va_get (D := D) (ci := 1) (v := .ref h2) (C := RX1) (T := TX1) (N := 5) hx hb hts UX1 hown hK hP 0 rfl rfl 1 (by decide) L15 (fun _ h9 => h9) rfl dX1_fitLine_88 ?_
        refine lv_iload hx hb dX1_fitLine_91 (lv_at hl 7 rfl) ?_
        refine j_rd (va_runSN (As := [.ref h2, .int (iI (i))]) (rest := [.int (iI (e9)), .long (lI (xy))]) ⟨hx, hb, hml, hown, hts⟩ (c_X10_at l D cI cZ z h2 i ks 20 (by first | assumption | omega) (by first | assumption | omega) H.size) ⟨va_cnB 2 hts gX1_fitLine_X10_at_n26 rfl rfl rfl (hZ.2.2.2.2.2 _ (List.mem_of_getElem? (i := 24) rfl)) IRX10 hsX10_at ⟨Nat.le_of_ble_eq_true rfl, Nat.le_of_ble_eq_true rfl⟩, STyX10_at, trivial⟩ (j_preS hP hD hK hS hZ hA [2] rfl rfl) rfl rfl hl.1 rfl (lv_room (Nat.le_of_ble_eq_true rfl)) dX1_fitLine_93 ⟨Nat.zero_le _, Nat.zero_le _⟩) ?_
        refine j_top (fun f9 ef9 => ?_)
        rw [atI_in (by omega)] at ef9
        have hm2 := mul_b (a := e9) (b := f9) (A := 9) (B := 999) (by omega) (by omega)
        refine j_imul hx hb dX1_fitLine_96 ?_
        refine j_i2l hx hb (by omega) dX1_fitLine_97 ?_
        refine j_ladd hx hb dX1_fitLine_98 ?_
        refine lv_lstore (lv' := [(9, .long (lI (xy + (e9 * f9)))), (7, .long (lI (xx + (c9 * d9)))), (5, .long (lI (y + b9))), (3, .long (lI (x + a9))), (0, .ref h0), (1, .int (iI (t))), (2, .int (iI (bI b))), (11, .int (iI (i)))]) hx hb dX1_fitLine_99 hl (by decide) rfl (fun ls hl => ?_)
        refine lv_iinc (v := iI (i + 1)) (lv' := [(11, .int (iI (i + 1))), (9, .long (lI (xy + (e9 * f9)))), (7, .long (lI (xx + (c9 * d9)))), (5, .long (lI (y + b9))), (3, .long (lI (x + a9))), (0, .ref h0), (1, .int (iI (t))), (2, .int (iI (bI b)))]) hx hb dX1_fitLine_101 hl (k := 7) rfl (iI_add _ _) (by decide) rfl (fun ls hl => ?_)
        refine lv_goto (tgt := 14) hx hb dX1_fitLine_104 (by decide) ?_
        exact ih_14 ((i + 1)) ((x + a9)) ((y + b9)) ((xx + (c9 * d9))) ((xy + (e9 * f9))) (n + 1) (by exact ⟨by omega, by omega, by rw [hi3, ea9, hi1]; rfl, by rw [hi4, eb9, hi1]; rfl, by rw [hi5, ec9, ed9, hi1]; rfl, by rw [hi6, ee9, ef9, hi1]; rfl⟩) (by omega) H locs hP hD hS ls (lv_sub hl [5, 6, 7, 4, 3, 2, 1, 0] rfl)
  exact loop_14 _ 0 0 0 0 0 0 (by exact ⟨rfl, by omega, rfl, rfl, rfl, rfl⟩) (Nat.lt_succ_self _) s.heap [] hP hD hS ls (lv_sub hl [5, 6, 7, 4, 3, 2, 1, 0] rfl)
theorem hsX10_divisorOf : yX10_divisorOf.cls ≠ "java/lang/invoke/MethodHandle" ∧ yX10_divisorOf.cls ≠ "java/lang/invoke/VarHandle" ∧ (parseMethodDescriptor yX10_divisorOf.desc).map (fun d => d.parameters.length) = some 2 := by decide +kernel
theorem hvX10_divisorOf : yX10_divisorOf.cls = RX10 ∧ yX10_divisorOf.cls ≠ "java/lang/invoke/MethodHandle" ∧ yX10_divisorOf.cls ≠ "java/lang/invoke/VarHandle" ∧ (parseMethodDescriptor yX10_divisorOf.desc).map (fun d => d.parameters.length) = some 2 := ⟨rfl, hsX10_divisorOf⟩
abbrev rmX1_leastTerm : Room := { frames := 1, cells := 0, slots := 0, locals := 30 }
set_option maxHeartbeats 4000000 in
set_option maxRecDepth 100000 in
theorem c_X1_leastTerm (l : Launch) (D : va_G) (cI cZ : ClassId) (z : jZT) (h0 h1 h2 : Nat) (w km ku kl : Int) (hku : -1000000000 ≤ ku ∧ ku ≤ 1000000000) (hkl : 0 < kl ∧ kl ≤ 40000) (hw : 0 ≤ w ∧ w ≤ 1) : jRd l yX1_leastTerm wsX1_leastTerm rmX1_leastTerm [.ref h0, .int (iI (w))] D cI cZ z [(h0, .inr (1, [.ref h1, .ref h2, .int (iI (km)), .long (lI (ku)), .long (lI (kl))]))] (some (.int (iI (if w = 0 then Int.tdiv ku (gcI ku kl) else Int.tdiv kl (gcI ku kl))))) := by
  refine jRd_of (cc := cX1_leastTerm) (n := 4) (ret := (some .int)) (by decide) rfl (Nat.le_of_ble_eq_true rfl) ?_
  intro p e s m below meth c A ls args Q hQ F hA hZ hP hK hD hS hl
  obtain ⟨hx, hb, hr, hml, hown, hts, hlocks⟩ := F
  have hown : s.vm.findClass RX1 = some m.cls := hown
  have hl : lv_has ls 4 [(0, .ref h0), (1, .int (iI (w)))] := hl
  have L34 := hts (.fieldLink RX1 34 "TinMouse$Keys" "upper" "J") (by decide +kernel)
  have LM37_1 := hts (.methodLink RX1 37 Lib.MathLoose.abs_long.x) (by decide +kernel)
  have LM37_2 := hts (.static Lib.MathLoose.abs_long.x) (by decide +kernel)
  have LM37_3 := hts (.initialized "java/lang/Math") (by decide +kernel)
  have LM37_4 := hts (.code Lib.MathLoose.abs_long.x Lib.MathLoose.abs_long.code 2 (some .long)) (by decide +kernel)
  have L30 := hts (.fieldLink RX1 30 "TinMouse$Keys" "lower" "J") (by decide +kernel)
  have IRX10 := hts (.initialized RX10) (by decide +kernel)
  have STyX10_divisorOf := hts (.static yX10_divisorOf) (by decide +kernel)
  have UX1 : ∀ w ∈ wsX10, w ∈ wsX1_leastTerm := fun w h => List.mem_cons_of_mem _ (List.mem_append_right _ h)
  have hg1 := gcI_le (a := ku) hkl.1
  have hga : gcI (if 0 < ku then ku else -ku) kl = gcI ku kl := by
    unfold gcI
    rw [show (if 0 < ku then ku else -ku).natAbs = ku.natAbs by omega]
  refine lv_aload_n hx hb dX1_leastTerm_0 rfl (lv_at hl 0 rfl) ?_
  refine va_get (D := D) (ci := 1) (v := .long (lI (ku))) (C := RX1) (T := TX1) (N := 5) hx hb hts UX1 hown hK hP 0 rfl rfl 3 (by decide) L34 (fun _ h9 => h9) rfl dX1_leastTerm_1 ?_
  refine j_mabsl hx hb (hml.trans hl.1.symm) hown LM37_1 LM37_2 LM37_3 LM37_4 (Nat.le_of_ble_eq_true rfl) (Nat.le_of_ble_eq_true rfl) (Nat.zero_le _) (Nat.zero_le _) (by omega) dX1_leastTerm_4 ?_
  refine lv_aload_n hx hb dX1_leastTerm_7 rfl (lv_at hl 0 rfl) ?_
  refine va_get (D := D) (ci := 1) (v := .long (lI (kl))) (C := RX1) (T := TX1) (N := 5) hx hb hts UX1 hown hK hP 0 rfl rfl 4 (by decide) L30 (fun _ h9 => h9) rfl dX1_leastTerm_8 ?_
  refine j_rd (va_runSN (As := [.long (lI (if 0 < ku then ku else -ku)), .long (lI (kl))]) (rest := []) ⟨hx, hb, hml, hown, hts⟩ (c_X10_divisorOf l D cI cZ z (if 0 < ku then ku else -ku) kl (by first | assumption | omega) (by first | assumption | omega) s.heap.size) ⟨va_cnB 2 hts gX1_leastTerm_X10_divisorOf_n43 rfl rfl rfl (hZ.2.2.2.2.2 _ (List.mem_of_getElem? (i := 25) rfl)) IRX10 hsX10_divisorOf ⟨Nat.le_of_ble_eq_true rfl, Nat.le_of_ble_eq_true rfl⟩, STyX10_divisorOf, trivial⟩ (j_preS hP hD hK hS hZ hA [] rfl rfl) rfl rfl hl.1 rfl (lv_room (Nat.le_of_ble_eq_true rfl)) dX1_leastTerm_11 ⟨Nat.zero_le _, Nat.zero_le _⟩) ?_
  rw [hga, if_pos (by omega)]
  refine lv_lstore_n (lv' := [(2, .long (lI (gcI ku kl))), (0, .ref h0), (1, .int (iI (w)))]) hx hb dX1_leastTerm_14 rfl hl (by decide) rfl (fun ls hl => ?_)
  refine lv_lload_n hx hb dX1_leastTerm_15 rfl (lv_at hl 0 rfl) ?_
  refine lv_lconst (v := lI (1)) hx hb dX1_leastTerm_16 (by decide) ?_
  refine j_lcmp hx hb (by omega) dX1_leastTerm_17 ?_
  refine j_if_ge (tgt := 24) hx hb (by omega) dX1_leastTerm_18 (by decide) (fun c_18 => ?_) (fun c_18 => ?_)
  · refine lv_iload_n hx hb dX1_leastTerm_24 rfl (lv_at hl 2 rfl) ?_
    refine j_if_ne (tgt := 35) hx hb (by omega) dX1_leastTerm_25 (by decide) (fun c_25 => ?_) (fun c_25 => ?_)
    · refine lv_aload_n hx hb dX1_leastTerm_35 rfl (lv_at hl 1 rfl) ?_
      refine va_get (D := D) (ci := 1) (v := .long (lI (kl))) (C := RX1) (T := TX1) (N := 5) hx hb hts UX1 hown hK hP 0 rfl rfl 4 (by decide) L30 (fun _ h9 => h9) rfl dX1_leastTerm_36 ?_
      refine lv_lload_n hx hb dX1_leastTerm_39 rfl (lv_at hl 0 rfl) ?_
      refine j_ldiv hx hb (by omega) dX1_leastTerm_40 ?_
      refine j_l2i hx hb dX1_leastTerm_41 ?_
      rw [hQ]; exact jr_iret hx hb hr hlocks (jo_i (by first | (rw [if_pos (by omega)]; done) | (rw [if_neg (by omega)]; done))) dX1_leastTerm_42
    · refine lv_aload_n hx hb dX1_leastTerm_28 rfl (lv_at hl 1 rfl) ?_
      refine va_get (D := D) (ci := 1) (v := .long (lI (ku))) (C := RX1) (T := TX1) (N := 5) hx hb hts UX1 hown hK hP 0 rfl rfl 3 (by decide) L34 (fun _ h9 => h9) rfl dX1_leastTerm_29 ?_
      refine lv_goto (tgt := 39) hx hb dX1_leastTerm_32 (by decide) ?_
      refine lv_lload_n hx hb dX1_leastTerm_39 rfl (lv_at hl 0 rfl) ?_
      refine j_ldiv hx hb (by omega) dX1_leastTerm_40 ?_
      refine j_l2i hx hb dX1_leastTerm_41 ?_
      rw [hQ]; exact jr_iret hx hb hr hlocks (jo_i (by first | (rw [if_pos (by omega)]; done) | (rw [if_neg (by omega)]; done))) dX1_leastTerm_42
  · exact False.elim (by omega)
