abbrev rmX8_isLetter : Room := { frames := 0, cells := 0, slots := 0, locals := 0 }
set_option maxHeartbeats 4000000 in
set_option maxRecDepth 100000 in
theorem c_X8_isLetter (l : Launch) (D : va_G) (cI cZ : ClassId) (z : jZT) (b : Int) (hb9 : -2147483648 ≤ b ∧ b < 2147483648) : jRd l yX8_isLetter wsX8_isLetter rmX8_isLetter [.int (iI (b))] D cI cZ z [] (some (.int (iI (bI (isL b))))) := by
  refine jRd_of (cc := cX8_isLetter) (n := 1) (ret := (some .boolean)) (by decide) rfl (Nat.le_of_ble_eq_true rfl) ?_
  intro p e s m below meth c A ls args Q hQ F hA hZ hP hK hD hS hl
  obtain ⟨hx, hb, hr, hml, hown, hts, hlocks⟩ := F
  have hown : s.vm.findClass RX8 = some m.cls := hown
  have hl : lv_has ls 1 [(0, .int (iI (b)))] := hl
  refine lv_iload_n hx hb dX8_isLetter_0 rfl (lv_at hl 0 rfl) ?_
  refine lv_bipush (v := iI (97)) hx hb dX8_isLetter_1 (by decide) ?_
  refine j_icmp_lt (tgt := 16) hx hb (by omega) dX8_isLetter_3 (by decide) (fun c_3 => ?_) (fun c_3 => ?_)
  · refine lv_iconst (v := iI (0)) hx hb dX8_isLetter_16 rfl ?_
    rw [hQ]; exact jr_zret hx hb hr hlocks jn_0 (jo_i (by unfold isL; first | (rw [decide_eq_true (by omega)]; rfl) | (rw [decide_eq_false (by omega)]; rfl))) dX8_isLetter_17
  · refine lv_iload_n hx hb dX8_isLetter_6 rfl (lv_at hl 0 rfl) ?_
    refine lv_bipush (v := iI (122)) hx hb dX8_isLetter_7 (by decide) ?_
    refine j_icmp_gt (tgt := 16) hx hb (by omega) dX8_isLetter_9 (by decide) (fun c_9 => ?_) (fun c_9 => ?_)
    · refine lv_iconst (v := iI (0)) hx hb dX8_isLetter_16 rfl ?_
      rw [hQ]; exact jr_zret hx hb hr hlocks jn_0 (jo_i (by unfold isL; first | (rw [decide_eq_true (by omega)]; rfl) | (rw [decide_eq_false (by omega)]; rfl))) dX8_isLetter_17
    · refine lv_iconst (v := iI (1)) hx hb dX8_isLetter_12 rfl ?_
      refine lv_goto (tgt := 17) hx hb dX8_isLetter_13 (by decide) ?_
      rw [hQ]; exact jr_zret hx hb hr hlocks jn_1 (jo_i (by unfold isL; first | (rw [decide_eq_true (by omega)]; rfl) | (rw [decide_eq_false (by omega)]; rfl))) dX8_isLetter_17
abbrev rmX8_isDigit : Room := { frames := 0, cells := 0, slots := 0, locals := 0 }
set_option maxHeartbeats 4000000 in
set_option maxRecDepth 100000 in
theorem c_X8_isDigit (l : Launch) (D : va_G) (cI cZ : ClassId) (z : jZT) (b : Int) (hb9 : -2147483648 ≤ b ∧ b < 2147483648) : jRd l yX8_isDigit wsX8_isDigit rmX8_isDigit [.int (iI (b))] D cI cZ z [] (some (.int (iI (bI (isD b))))) := by
  refine jRd_of (cc := cX8_isDigit) (n := 1) (ret := (some .boolean)) (by decide) rfl (Nat.le_of_ble_eq_true rfl) ?_
  intro p e s m below meth c A ls args Q hQ F hA hZ hP hK hD hS hl
  obtain ⟨hx, hb, hr, hml, hown, hts, hlocks⟩ := F
  have hown : s.vm.findClass RX8 = some m.cls := hown
  have hl : lv_has ls 1 [(0, .int (iI (b)))] := hl
  refine lv_iload_n hx hb dX8_isDigit_0 rfl (lv_at hl 0 rfl) ?_
  refine lv_bipush (v := iI (48)) hx hb dX8_isDigit_1 (by decide) ?_
  refine j_icmp_lt (tgt := 16) hx hb (by omega) dX8_isDigit_3 (by decide) (fun c_3 => ?_) (fun c_3 => ?_)
  · refine lv_iconst (v := iI (0)) hx hb dX8_isDigit_16 rfl ?_
    rw [hQ]; exact jr_zret hx hb hr hlocks jn_0 (jo_i (by unfold isD; first | (rw [decide_eq_true (by omega)]; rfl) | (rw [decide_eq_false (by omega)]; rfl))) dX8_isDigit_17
  · refine lv_iload_n hx hb dX8_isDigit_6 rfl (lv_at hl 0 rfl) ?_
    refine lv_bipush (v := iI (57)) hx hb dX8_isDigit_7 (by decide) ?_
    refine j_icmp_gt (tgt := 16) hx hb (by omega) dX8_isDigit_9 (by decide) (fun c_9 => ?_) (fun c_9 => ?_)
    · refine lv_iconst (v := iI (0)) hx hb dX8_isDigit_16 rfl ?_
      rw [hQ]; exact jr_zret hx hb hr hlocks jn_0 (jo_i (by unfold isD; first | (rw [decide_eq_true (by omega)]; rfl) | (rw [decide_eq_false (by omega)]; rfl))) dX8_isDigit_17
    · refine lv_iconst (v := iI (1)) hx hb dX8_isDigit_12 rfl ?_
      refine lv_goto (tgt := 17) hx hb dX8_isDigit_13 (by decide) ?_
      rw [hQ]; exact jr_zret hx hb hr hlocks jn_1 (jo_i (by unfold isD; first | (rw [decide_eq_true (by omega)]; rfl) | (rw [decide_eq_false (by omega)]; rfl))) dX8_isDigit_17
abbrev rmX8_add : Room := { frames := 1, cells := 0, slots := 0, locals := 22 }
set_option maxHeartbeats 4000000 in
set_option maxRecDepth 100000 in
theorem c_X8_add (l : Launch) (D : va_G) (cI cZ : ClassId) (z : jZT) (h0 h1 : Nat) (b tn pl fi so va : Int) (tb : Int → Int) (htn : 0 ≤ tn ∧ tn < 300) : jMu (S := (Int → Int)) l yX8_add wsX8_add rmX8_add [.ref h0, .int (iI (b))] D cI cZ z [(h0, .inr (8, [.ref h1, .int (iI (tn)), .int (iI (pl)), .int (iI (fi)), .int (iI (so)), .int (iI (va))])), (h1, .inl (cI, 300, .inl (aI tb)))] (fun u => none) (fun u => u = upZ tb tn b) (fun u => [(h0, .inr (8, [.ref h1, .int (iI (tn + 1)), .int (iI (pl)), .int (iI (fi)), .int (iI (so)), .int (iI (va))])), (h1, .inl (cI, 300, .inl (aI u)))]) := by
  refine jMu_of (cc := cX8_add) (n := 2) (ret := none) (by decide) rfl (Nat.le_of_ble_eq_true rfl) ?_
  intro p e s m below meth c A ls args Q hQ F hA hZ hP hK hD hS hl
  obtain ⟨hx, hb, hr, hml, hown, hts, hlocks⟩ := F
  have hown : s.vm.findClass RX8 = some m.cls := hown
  have hl : lv_has ls 2 [(0, .ref h0), (1, .int (iI (b)))] := hl
  have L15 := hts (.fieldLink RX8 15 "TinMouse$Text" "length" "I") (by decide +kernel)
  have L9 := hts (.fieldLink RX8 9 "TinMouse$Text" "bytes" "[I") (by decide +kernel)
  have IRX10 := hts (.initialized RX10) (by decide +kernel)
  have STyX10_set := hts (.static yX10_set) (by decide +kernel)
  have UX8 : ∀ w ∈ wsX80, w ∈ wsX8_add := fun w h => List.mem_cons_of_mem _ (List.mem_append_right _ h)
  refine lv_aload_n hx hb dX8_add_0 rfl (lv_at hl 0 rfl) ?_
  refine va_get (D := D) (ci := 8) (v := .int (iI (tn))) (C := RX8) (T := TX8) (N := 6) hx hb hts UX8 hown hK hP 0 rfl rfl 1 (by decide) L15 (fun _ h9 => h9) rfl dX8_add_1 ?_
  refine lv_aload_n hx hb dX8_add_4 rfl (lv_at hl 0 rfl) ?_
  refine va_get (D := D) (ci := 8) (v := .ref h1) (C := RX8) (T := TX8) (N := 6) hx hb hts UX8 hown hK hP 0 rfl rfl 0 (by decide) L9 (fun _ h9 => h9) rfl dX8_add_5 ?_
  refine j_alen hx hb hK hP 1 0 rfl rfl dX8_add_8 ?_
  refine j_icmp_ge (tgt := 34) hx hb (by omega) dX8_add_9 (by decide) (fun c_9 => ?_) (fun c_9 => ?_)
  · exact False.elim (by omega)
  · refine lv_aload_n hx hb dX8_add_12 rfl (lv_at hl 0 rfl) ?_
    refine va_get (D := D) (ci := 8) (v := .ref h1) (C := RX8) (T := TX8) (N := 6) hx hb hts UX8 hown hK hP 0 rfl rfl 0 (by decide) L9 (fun _ h9 => h9) rfl dX8_add_13 ?_
    refine lv_aload_n hx hb dX8_add_16 rfl (lv_at hl 0 rfl) ?_
    refine va_get (D := D) (ci := 8) (v := .int (iI (tn))) (C := RX8) (T := TX8) (N := 6) hx hb hts UX8 hown hK hP 0 rfl rfl 1 (by decide) L15 (fun _ h9 => h9) rfl dX8_add_17 ?_
    refine lv_iload_n hx hb dX8_add_20 rfl (lv_at hl 1 rfl) ?_
    refine j_muv (va_runSN (As := [.ref h1, .int (iI (tn)), .int (iI (b))]) (rest := []) ⟨hx, hb, hml, hown, hts⟩ (c_X10_set l D cI cZ z h1 tn b tb 300 (by first | assumption | omega) (by first | assumption | omega) s.heap.size) ⟨va_cnB 3 hts gX8_add_X10_set_n19 rfl rfl rfl (hZ.2.2.2.2.2 _ (List.mem_of_getElem? (i := 6) rfl)) IRX10 hsX10_set ⟨Nat.le_of_ble_eq_true rfl, Nat.le_of_ble_eq_true rfl⟩, STyX10_set, trivial⟩ (j_preS hP hD hK hS hZ hA [1] rfl rfl) rfl rfl hl.1 rfl (lv_room (Nat.le_of_ble_eq_true rfl)) dX8_add_21 ⟨Nat.zero_le _, Nat.zero_le _⟩) hP hD hS hA [1] rfl (fun _ => rfl) (fun g2_1 H locs hw_21 hP hD hS => ?_)
    have hP : va_P D vwCl [(h0, .inr (8, [.ref h1, .int (iI (tn)), .int (iI (pl)), .int (iI (fi)), .int (iI (so)), .int (iI (va))])), (h1, .inl (cI, 300, .inl (aI g2_1)))] H := hP
    have hD : va_D A [(h0, .inr (8, [.ref h1, .int (iI (tn)), .int (iI (pl)), .int (iI (fi)), .int (iI (so)), .int (iI (va))])), (h1, .inl (cI, 300, .inl (aI g2_1)))] := hD
    refine lv_aload_n hx hb dX8_add_24 rfl (lv_at hl 0 rfl) ?_
    refine lv_dup hx hb dX8_add_25 rfl ?_
    refine va_get (D := D) (ci := 8) (v := .int (iI (tn))) (C := RX8) (T := TX8) (N := 6) hx hb hts UX8 hown hK hP 0 rfl rfl 1 (by decide) L15 (fun _ h9 => h9) rfl dX8_add_26 ?_
    refine lv_iconst (v := iI (1)) hx hb dX8_add_29 rfl ?_
    refine j_iadd hx hb dX8_add_30 ?_
    refine va_put (D := D) (ci := 8) (v := .int (iI (tn + 1))) (ty := .int) (C := RX8) (T := TX8) (N := 6) hx hb hts UX8 tyX8 tyX8_ok nmX8 hown hK hP hD hS 0 rfl rfl 1 (by decide) L15 (fun _ h9 => h9) rfl rfl rfl rfl (Nat.le_of_ble_eq_true rfl) dX8_add_31 (fun H locs hP hD hS => ?_)
    have hP : va_P D vwCl [(h0, .inr (8, [.ref h1, .int (iI (tn + 1)), .int (iI (pl)), .int (iI (fi)), .int (iI (so)), .int (iI (va))])), (h1, .inl (cI, 300, .inl (aI g2_1)))] H := hP
    have hD : va_D A [(h0, .inr (8, [.ref h1, .int (iI (tn + 1)), .int (iI (pl)), .int (iI (fi)), .int (iI (so)), .int (iI (va))])), (h1, .inl (cI, 300, .inl (aI g2_1)))] := hD
    rw [hQ]; exact jm_vret g2_1 hx hb hr hlocks hS hP rfl (by (try dsimp only); rw [hw_21, setI_in (by omega)]) dX8_add_34
abbrev rmX8_nameOf : Room := { frames := 0, cells := 0, slots := 0, locals := 0 }
set_option maxHeartbeats 4000000 in
set_option maxRecDepth 100000 in
theorem c_X8_nameOf (l : Launch) (D : va_G) (cI cZ : ClassId) (z : jZT) (w : Int) (hw : 0 ≤ w ∧ w < 6) : jRd l yX8_nameOf wsX8_nameOf rmX8_nameOf [.int (iI (w))] D cI cZ z [] (some (.ref ((z.2.2.1 w.toNat)))) := by
  refine jRd_of (cc := cX8_nameOf) (n := 1) (ret := (some (.object "java/lang/String"))) (by decide) rfl (Nat.le_of_ble_eq_true rfl) ?_
  intro p e s m below meth c A ls args Q hQ F hA hZ hP hK hD hS hl
  obtain ⟨hx, hb, hr, hml, hown, hts, hlocks⟩ := F
  have hown : s.vm.findClass RX8 = some m.cls := hown
  have hl : lv_has ls 1 [(0, .int (iI (w)))] := hl
  refine lv_iload_n hx hb dX8_nameOf_0 rfl (lv_at hl 0 rfl) ?_
  rcases (show (w < 0 ∨ 4 < w) ∨ w = 0 ∨ w = 1 ∨ w = 2 ∨ w = 3 ∨ w = 4 by omega) with h_1 | h_1 | h_1 | h_1 | h_1 | h_1
  · refine lv_tableOut (tgt := 51) hx hb dX8_nameOf_1 (by rw [iI_toInt (by omega)]; exact h_1) (by decide) ?_
    refine va_ldcS (q := z.2.2.1 5) hx hb hown (hZ.2.2.2.1.2 5 (by decide)) dX8_nameOf_51 ?_
    rw [hQ]; exact jr_aret hx hb hr (Or.inl ⟨_, rfl⟩) hlocks (by first | (rw [h_1]; rfl) | (rw [show w = 5 by omega]; rfl)) dX8_nameOf_53
  · have h9 : (iI (w)).toInt = 0 := by rw [h_1]; decide
    refine lv_tableIn (tgt := 36) hx hb dX8_nameOf_1 (by rw [h9]; decide) (by rw [h9]; decide) (by rw [h9]; rfl) (by decide) ?_
    refine va_ldcS (q := z.2.2.1 0) hx hb hown (hZ.2.2.2.1.2 0 (by decide)) dX8_nameOf_36 ?_
    rw [hQ]; exact jr_aret hx hb hr (Or.inl ⟨_, rfl⟩) hlocks (by first | (rw [h_1]; rfl) | (rw [show w = 5 by omega]; rfl)) dX8_nameOf_38
  · have h9 : (iI (w)).toInt = 1 := by rw [h_1]; decide
    refine lv_tableIn (tgt := 39) hx hb dX8_nameOf_1 (by rw [h9]; decide) (by rw [h9]; decide) (by rw [h9]; rfl) (by decide) ?_
    refine va_ldcS (q := z.2.2.1 1) hx hb hown (hZ.2.2.2.1.2 1 (by decide)) dX8_nameOf_39 ?_
    rw [hQ]; exact jr_aret hx hb hr (Or.inl ⟨_, rfl⟩) hlocks (by first | (rw [h_1]; rfl) | (rw [show w = 5 by omega]; rfl)) dX8_nameOf_41
  · have h9 : (iI (w)).toInt = 2 := by rw [h_1]; decide
    refine lv_tableIn (tgt := 42) hx hb dX8_nameOf_1 (by rw [h9]; decide) (by rw [h9]; decide) (by rw [h9]; rfl) (by decide) ?_
    refine va_ldcS (q := z.2.2.1 2) hx hb hown (hZ.2.2.2.1.2 2 (by decide)) dX8_nameOf_42 ?_
    rw [hQ]; exact jr_aret hx hb hr (Or.inl ⟨_, rfl⟩) hlocks (by first | (rw [h_1]; rfl) | (rw [show w = 5 by omega]; rfl)) dX8_nameOf_44
  · have h9 : (iI (w)).toInt = 3 := by rw [h_1]; decide
    refine lv_tableIn (tgt := 45) hx hb dX8_nameOf_1 (by rw [h9]; decide) (by rw [h9]; decide) (by rw [h9]; rfl) (by decide) ?_
    refine va_ldcS (q := z.2.2.1 3) hx hb hown (hZ.2.2.2.1.2 3 (by decide)) dX8_nameOf_45 ?_
    rw [hQ]; exact jr_aret hx hb hr (Or.inl ⟨_, rfl⟩) hlocks (by first | (rw [h_1]; rfl) | (rw [show w = 5 by omega]; rfl)) dX8_nameOf_47
  · have h9 : (iI (w)).toInt = 4 := by rw [h_1]; decide
    refine lv_tableIn (tgt := 48) hx hb dX8_nameOf_1 (by rw [h9]; decide) (by rw [h9]; decide) (by rw [h9]; rfl) (by decide) ?_
    refine va_ldcS (q := z.2.2.1 4) hx hb hown (hZ.2.2.2.1.2 4 (by decide)) dX8_nameOf_48 ?_
    rw [hQ]; exact jr_aret hx hb hr (Or.inl ⟨_, rfl⟩) hlocks (by first | (rw [h_1]; rfl) | (rw [show w = 5 by omega]; rfl)) dX8_nameOf_50
