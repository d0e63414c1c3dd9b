abbrev rmX5_mayStand : Room := { frames := 0, cells := 0, slots := 0, locals := 0 }
set_option maxHeartbeats 4000000 in
set_option maxRecDepth 100000 in
theorem c_X5_mayStand (l : Launch) (D : va_G) (cI cZ : ClassId) (z : jZT) (h0 h1 h2 : Nat) (w it mk : Int) (hw : 0 ≤ w ∧ w < 6) (hit : 0 ≤ it ∧ it < 1000) : jRd l yX5_mayStand wsX5_mayStand rmX5_mayStand [.ref h0, .int (iI (w))] D cI cZ z [(h0, .inr (5, [.ref h1, .ref h2, .int (iI (it)), .int (iI (mk))]))] (some (.int (iI (bI (mayS it mk w))))) := by
  refine jRd_of (cc := cX5_mayStand) (n := 2) (ret := (some .boolean)) (by decide) rfl (Nat.le_of_ble_eq_true rfl) ?_
  intro p e s m below meth c A ls args Q hQ F hA hZ hP hK hD hS hl
  obtain ⟨hx, hb, hr, hml, hown, hts, hlocks⟩ := F
  have hown : s.vm.findClass RX5 = some m.cls := hown
  have hl : lv_has ls 2 [(0, .ref h0), (1, .int (iI (w)))] := hl
  have L28 := hts (.fieldLink RX5 28 "TinMouse$Reader" "toldWords" "I") (by decide +kernel)
  have L24 := hts (.fieldLink RX5 24 "TinMouse$Reader" "items" "I") (by decide +kernel)
  have UX5 : ∀ w ∈ wsX50, w ∈ wsX5_mayStand := fun w h => List.mem_cons_of_mem _ (List.mem_append_right _ h)
  have hmr := mskT_rng mk w
  refine lv_iload_n hx hb dX5_mayStand_0 rfl (lv_at hl 1 rfl) ?_
  rcases (show (w < 0 ∨ 2 < w) ∨ w = 0 ∨ w = 1 ∨ w = 2 by omega) with h_1 | h_1 | h_1 | h_1
  · refine lv_tableOut (tgt := 43) hx hb dX5_mayStand_1 (by rw [iI_toInt (by omega)]; exact h_1) (by decide) ?_
    refine lv_aload_n hx hb dX5_mayStand_43 rfl (lv_at hl 0 rfl) ?_
    refine va_get (D := D) (ci := 5) (v := .int (iI (mk))) (C := RX5) (T := TX5) (N := 4) hx hb hts UX5 hown hK hP 0 rfl rfl 3 (by decide) L28 (fun _ h9 => h9) rfl dX5_mayStand_44 ?_
    refine lv_iload_n hx hb dX5_mayStand_47 rfl (lv_at hl 1 rfl) ?_
    refine lv_ishr hx hb dX5_mayStand_48 ?_
    refine lv_iconst (v := iI (1)) hx hb dX5_mayStand_49 rfl ?_
    refine lv_iand hx hb dX5_mayStand_50 ?_
    rw [← iI_mskT]
    refine j_if_ne (tgt := 58) hx hb (by omega) dX5_mayStand_51 (by decide) (fun c_51 => ?_) (fun c_51 => ?_)
    · refine lv_iconst (v := iI (0)) hx hb dX5_mayStand_58 rfl ?_
      rw [hQ]; exact jr_zret hx hb hr hlocks jn_0 (jo_i (by unfold mayS; first | (rw [if_pos (by omega)]; first | (rw [decide_eq_true (by omega)]; rfl) | (rw [decide_eq_false (by omega)]; rfl)) | (rw [if_neg (by omega), if_pos (by omega)]; rfl) | (rw [if_neg (by omega), if_neg (by omega)]; first | (rw [decide_eq_true (by omega)]; rfl) | (rw [decide_eq_false (by omega)]; rfl)))) dX5_mayStand_59
    · refine lv_iconst (v := iI (1)) hx hb dX5_mayStand_54 rfl ?_
      refine lv_goto (tgt := 59) hx hb dX5_mayStand_55 (by decide) ?_
      rw [hQ]; exact jr_zret hx hb hr hlocks jn_1 (jo_i (by unfold mayS; first | (rw [if_pos (by omega)]; first | (rw [decide_eq_true (by omega)]; rfl) | (rw [decide_eq_false (by omega)]; rfl)) | (rw [if_neg (by omega), if_pos (by omega)]; rfl) | (rw [if_neg (by omega), if_neg (by omega)]; first | (rw [decide_eq_true (by omega)]; rfl) | (rw [decide_eq_false (by omega)]; rfl)))) dX5_mayStand_59
  · have h9 : (iI (w)).toInt = 0 := by rw [h_1]; decide
    refine lv_tableIn (tgt := 28) hx hb dX5_mayStand_1 (by rw [h9]; decide) (by rw [h9]; decide) (by rw [h9]; rfl) (by decide) ?_
    refine lv_aload_n hx hb dX5_mayStand_28 rfl (lv_at hl 0 rfl) ?_
    refine va_get (D := D) (ci := 5) (v := .int (iI (it))) (C := RX5) (T := TX5) (N := 4) hx hb hts UX5 hown hK hP 0 rfl rfl 2 (by decide) L24 (fun _ h9 => h9) rfl dX5_mayStand_29 ?_
    refine j_if_ne (tgt := 39) hx hb (by omega) dX5_mayStand_32 (by decide) (fun c_32 => ?_) (fun c_32 => ?_)
    · refine lv_iconst (v := iI (0)) hx hb dX5_mayStand_39 rfl ?_
      rw [hQ]; exact jr_zret hx hb hr hlocks jn_0 (jo_i (by unfold mayS; first | (rw [if_pos (by omega)]; first | (rw [decide_eq_true (by omega)]; rfl) | (rw [decide_eq_false (by omega)]; rfl)) | (rw [if_neg (by omega), if_pos (by omega)]; rfl) | (rw [if_neg (by omega), if_neg (by omega)]; first | (rw [decide_eq_true (by omega)]; rfl) | (rw [decide_eq_false (by omega)]; rfl)))) dX5_mayStand_40
    · refine lv_iconst (v := iI (1)) hx hb dX5_mayStand_35 rfl ?_
      refine lv_goto (tgt := 40) hx hb dX5_mayStand_36 (by decide) ?_
      rw [hQ]; exact jr_zret hx hb hr hlocks jn_1 (jo_i (by unfold mayS; first | (rw [if_pos (by omega)]; first | (rw [decide_eq_true (by omega)]; rfl) | (rw [decide_eq_false (by omega)]; rfl)) | (rw [if_neg (by omega), if_pos (by omega)]; rfl) | (rw [if_neg (by omega), if_neg (by omega)]; first | (rw [decide_eq_true (by omega)]; rfl) | (rw [decide_eq_false (by omega)]; rfl)))) dX5_mayStand_40
  · have h9 : (iI (w)).toInt = 1 := by rw [h_1]; decide
    refine lv_tableIn (tgt := 41) hx hb dX5_mayStand_1 (by rw [h9]; decide) (by rw [h9]; decide) (by rw [h9]; rfl) (by decide) ?_
    refine lv_iconst (v := iI (1)) hx hb dX5_mayStand_41 rfl ?_
    rw [hQ]; exact jr_zret hx hb hr hlocks jn_1 (jo_i (by unfold mayS; first | (rw [if_pos (by omega)]; first | (rw [decide_eq_true (by omega)]; rfl) | (rw [decide_eq_false (by omega)]; rfl)) | (rw [if_neg (by omega), if_pos (by omega)]; rfl) | (rw [if_neg (by omega), if_neg (by omega)]; first | (rw [decide_eq_true (by omega)]; rfl) | (rw [decide_eq_false (by omega)]; rfl)))) dX5_mayStand_42
  · have h9 : (iI (w)).toInt = 2 := by rw [h_1]; decide
    refine lv_tableIn (tgt := 41) hx hb dX5_mayStand_1 (by rw [h9]; decide) (by rw [h9]; decide) (by rw [h9]; rfl) (by decide) ?_
    refine lv_iconst (v := iI (1)) hx hb dX5_mayStand_41 rfl ?_
    rw [hQ]; exact jr_zret hx hb hr hlocks jn_1 (jo_i (by unfold mayS; first | (rw [if_pos (by omega)]; first | (rw [decide_eq_true (by omega)]; rfl) | (rw [decide_eq_false (by omega)]; rfl)) | (rw [if_neg (by omega), if_pos (by omega)]; rfl) | (rw [if_neg (by omega), if_neg (by omega)]; first | (rw [decide_eq_true (by omega)]; rfl) | (rw [decide_eq_false (by omega)]; rfl)))) dX5_mayStand_42
abbrev rmX5_numbersOf : Room := { frames := 0, cells := 0, slots := 0, locals := 0 }
set_option maxHeartbeats 4000000 in
set_option maxRecDepth 100000 in
theorem c_X5_numbersOf (l : Launch) (D : va_G) (cI cZ : ClassId) (z : jZT) (w : Int) (hw : 0 ≤ w ∧ w < 6) : jRd l yX5_numbersOf wsX5_numbersOf rmX5_numbersOf [.int (iI (w))] D cI cZ z [] (some (.int (iI (nofW w)))) := by
  refine jRd_of (cc := cX5_numbersOf) (n := 1) (ret := (some .int)) (by decide) rfl (Nat.le_of_ble_eq_true rfl) ?_
  intro p e s m below meth c A ls args Q hQ F hA hZ hP hK hD hS hl
  obtain ⟨hx, hb, hr, hml, hown, hts, hlocks⟩ := F
  have hown : s.vm.findClass RX5 = some m.cls := hown
  have hl : lv_has ls 1 [(0, .int (iI (w)))] := hl
  refine lv_iload_n hx hb dX5_numbersOf_0 rfl (lv_at hl 0 rfl) ?_
  rcases (show w = 0 ∨ w = 1 ∨ w = 2 ∨ w = 3 ∨ w = 4 ∨ w = 5 by omega) with h_1 | h_1 | h_1 | h_1 | h_1 | h_1
  · have h9 : (iI (w)).toInt = 0 := by rw [h_1]; decide
    refine lv_lookup (off := 35) (tgt := 36) hx hb dX5_numbersOf_1 (by decide) (by rw [h9]; decide) (by decide) ?_
    refine lv_iconst (v := iI (2)) hx hb dX5_numbersOf_36 rfl ?_
    rw [hQ]; exact jr_iret hx hb hr hlocks (jo_i (by unfold nofW; omega)) dX5_numbersOf_37
  · have h9 : (iI (w)).toInt = 1 := by rw [h_1]; decide
    refine lv_lookup (off := 39) (tgt := 40) hx hb dX5_numbersOf_1 (by decide) (by rw [h9]; decide) (by decide) ?_
    refine lv_iconst (v := iI (4)) hx hb dX5_numbersOf_40 rfl ?_
    rw [hQ]; exact jr_iret hx hb hr hlocks (jo_i (by unfold nofW; omega)) dX5_numbersOf_41
  · have h9 : (iI (w)).toInt = 2 := by rw [h_1]; decide
    refine lv_lookup (off := 39) (tgt := 40) hx hb dX5_numbersOf_1 (by decide) (by rw [h9]; decide) (by decide) ?_
    refine lv_iconst (v := iI (4)) hx hb dX5_numbersOf_40 rfl ?_
    rw [hQ]; exact jr_iret hx hb hr hlocks (jo_i (by unfold nofW; omega)) dX5_numbersOf_41
  · have h9 : (iI (w)).toInt = 3 := by rw [h_1]; decide
    refine lv_lookup (off := 35) (tgt := 36) hx hb dX5_numbersOf_1 (by decide) (by rw [h9]; decide) (by decide) ?_
    refine lv_iconst (v := iI (2)) hx hb dX5_numbersOf_36 rfl ?_
    rw [hQ]; exact jr_iret hx hb hr hlocks (jo_i (by unfold nofW; omega)) dX5_numbersOf_37
  · have h9 : (iI (w)).toInt = 4 := by rw [h_1]; decide
    refine lv_lookup (off := 39) (tgt := 40) hx hb dX5_numbersOf_1 (by decide) (by rw [h9]; decide) (by decide) ?_
    refine lv_iconst (v := iI (4)) hx hb dX5_numbersOf_40 rfl ?_
    rw [hQ]; exact jr_iret hx hb hr hlocks (jo_i (by unfold nofW; omega)) dX5_numbersOf_41
  · have h9 : (iI (w)).toInt = 5 := by rw [h_1]; decide
    refine lv_lookup (off := 37) (tgt := 38) hx hb dX5_numbersOf_1 (by decide) (by rw [h9]; decide) (by decide) ?_
    refine lv_iconst (v := iI (3)) hx hb dX5_numbersOf_38 rfl ?_
    rw [hQ]; exact jr_iret hx hb hr hlocks (jo_i (by unfold nofW; omega)) dX5_numbersOf_39
abbrev rmX5_leastOfToy : Room := { frames := 0, cells := 0, slots := 0, locals := 0 }
set_option maxHeartbeats 4000000 in
set_option maxRecDepth 100000 in
theorem c_X5_leastOfToy (l : Launch) (D : va_G) (cI cZ : ClassId) (z : jZT) (i : Int) (hi : 0 ≤ i ∧ i < 4) : jRd l yX5_leastOfToy wsX5_leastOfToy rmX5_leastOfToy [.int (iI (i))] D cI cZ z [] (some (.int (iI (if i < 2 then 1 else 0)))) := by
  refine jRd_of (cc := cX5_leastOfToy) (n := 1) (ret := (some .int)) (by decide) rfl (Nat.le_of_ble_eq_true rfl) ?_
  intro p e s m below meth c A ls args Q hQ F hA hZ hP hK hD hS hl
  obtain ⟨hx, hb, hr, hml, hown, hts, hlocks⟩ := F
  have hown : s.vm.findClass RX5 = some m.cls := hown
  have hl : lv_has ls 1 [(0, .int (iI (i)))] := hl
  refine lv_iload_n hx hb dX5_leastOfToy_0 rfl (lv_at hl 0 rfl) ?_
  refine lv_iconst (v := iI (2)) hx hb dX5_leastOfToy_1 rfl ?_
  refine j_icmp_ge (tgt := 9) hx hb (by omega) dX5_leastOfToy_2 (by decide) (fun c_2 => ?_) (fun c_2 => ?_)
  · refine lv_iconst (v := iI (0)) hx hb dX5_leastOfToy_9 rfl ?_
    rw [hQ]; exact jr_iret hx hb hr hlocks (jo_i (by omega)) dX5_leastOfToy_10
  · refine lv_iconst (v := iI (1)) hx hb dX5_leastOfToy_5 rfl ?_
    refine lv_goto (tgt := 10) hx hb dX5_leastOfToy_6 (by decide) ?_
    rw [hQ]; exact jr_iret hx hb hr hlocks (jo_i (by omega)) dX5_leastOfToy_10
abbrev rmX5_mostOfToy : Room := { frames := 0, cells := 0, slots := 0, locals := 0 }
set_option maxHeartbeats 4000000 in
set_option maxRecDepth 100000 in
theorem c_X5_mostOfToy (l : Launch) (D : va_G) (cI cZ : ClassId) (z : jZT) (i : Int) (hi : 0 ≤ i ∧ i < 4) : jRd l yX5_mostOfToy wsX5_mostOfToy rmX5_mostOfToy [.int (iI (i))] D cI cZ z [] (some (.int (iI (if i = 0 then 3 else if i = 1 then 7 else if i = 2 then 9 else 999)))) := by
  refine jRd_of (cc := cX5_mostOfToy) (n := 1) (ret := (some .int)) (by decide) rfl (Nat.le_of_ble_eq_true rfl) ?_
  intro p e s m below meth c A ls args Q hQ F hA hZ hP hK hD hS hl
  obtain ⟨hx, hb, hr, hml, hown, hts, hlocks⟩ := F
  have hown : s.vm.findClass RX5 = some m.cls := hown
  have hl : lv_has ls 1 [(0, .int (iI (i)))] := hl
  refine lv_iload_n hx hb dX5_mostOfToy_0 rfl (lv_at hl 0 rfl) ?_
  rcases (show (i < 0 ∨ 2 < i) ∨ i = 0 ∨ i = 1 ∨ i = 2 by omega) with h_1 | h_1 | h_1 | h_1
  · refine lv_tableOut (tgt := 36) hx hb dX5_mostOfToy_1 (by rw [iI_toInt (by omega)]; exact h_1) (by decide) ?_
    refine lv_sipush (v := iI (999)) hx hb dX5_mostOfToy_36 (by decide) ?_
    rw [hQ]; exact jr_iret hx hb hr hlocks (jo_i (by omega)) dX5_mostOfToy_39
  · have h9 : (iI (i)).toInt = 0 := by rw [h_1]; decide
    refine lv_tableIn (tgt := 28) hx hb dX5_mostOfToy_1 (by rw [h9]; decide) (by rw [h9]; decide) (by rw [h9]; rfl) (by decide) ?_
    refine lv_iconst (v := iI (3)) hx hb dX5_mostOfToy_28 rfl ?_
    rw [hQ]; exact jr_iret hx hb hr hlocks (jo_i (by omega)) dX5_mostOfToy_29
  · have h9 : (iI (i)).toInt = 1 := by rw [h_1]; decide
    refine lv_tableIn (tgt := 30) hx hb dX5_mostOfToy_1 (by rw [h9]; decide) (by rw [h9]; decide) (by rw [h9]; rfl) (by decide) ?_
    refine lv_bipush (v := iI (7)) hx hb dX5_mostOfToy_30 (by decide) ?_
    rw [hQ]; exact jr_iret hx hb hr hlocks (jo_i (by omega)) dX5_mostOfToy_32
  · have h9 : (iI (i)).toInt = 2 := by rw [h_1]; decide
    refine lv_tableIn (tgt := 33) hx hb dX5_mostOfToy_1 (by rw [h9]; decide) (by rw [h9]; decide) (by rw [h9]; rfl) (by decide) ?_
    refine lv_bipush (v := iI (9)) hx hb dX5_mostOfToy_33 (by decide) ?_
    rw [hQ]; exact jr_iret hx hb hr hlocks (jo_i (by omega)) dX5_mostOfToy_35
theorem hsX5_leastOfToy : yX5_leastOfToy.cls ≠ "java/lang/invoke/MethodHandle" ∧ yX5_leastOfToy.cls ≠ "java/lang/invoke/VarHandle" ∧ (parseMethodDescriptor yX5_leastOfToy.desc).map (fun d => d.parameters.length) = some 1 := by decide +kernel
theorem hvX5_leastOfToy : yX5_leastOfToy.cls = RX5 ∧ yX5_leastOfToy.cls ≠ "java/lang/invoke/MethodHandle" ∧ yX5_leastOfToy.cls ≠ "java/lang/invoke/VarHandle" ∧ (parseMethodDescriptor yX5_leastOfToy.desc).map (fun d => d.parameters.length) = some 1 := ⟨rfl, hsX5_leastOfToy⟩
theorem hsX5_mostOfToy : yX5_mostOfToy.cls ≠ "java/lang/invoke/MethodHandle" ∧ yX5_mostOfToy.cls ≠ "java/lang/invoke/VarHandle" ∧ (parseMethodDescriptor yX5_mostOfToy.desc).map (fun d => d.parameters.length) = some 1 := by decide +kernel
theorem hvX5_mostOfToy : yX5_mostOfToy.cls = RX5 ∧ yX5_mostOfToy.cls ≠ "java/lang/invoke/MethodHandle" ∧ yX5_mostOfToy.cls ≠ "java/lang/invoke/VarHandle" ∧ (parseMethodDescriptor yX5_mostOfToy.desc).map (fun d => d.parameters.length) = some 1 := ⟨rfl, hsX5_mostOfToy⟩
abbrev rmX5_isInside : Room := { frames := 1, cells := 0, slots := 0, locals := 21 }
set_option maxHeartbeats 4000000 in
set_option maxRecDepth 100000 in
theorem c_X5_isInside (l : Launch) (D : va_G) (cI cZ : ClassId) (z : jZT) (h0 h3 h1 h2 h4 : Nat) (w i v it mk Wi Hi bl sc sd no tu be sp : Int) (nu g : Int → Int) (hW : 3 ≤ Wi ∧ Wi ≤ 16) (hH : 3 ≤ Hi ∧ Hi ≤ 16) (hw : 0 ≤ w ∧ w < 6) (hi : 0 ≤ i ∧ i < nofW w) (hv : 0 ≤ v ∧ v < 1000) (hnu : 2 ≤ i → (0 ≤ nu 0 ∧ nu 0 < 1000) ∧ (0 ≤ nu 1 ∧ nu 1 < 1000)) : jRd l yX5_isInside wsX5_isInside rmX5_isInside [.ref h0, .ref h3, .int (iI (w)), .int (iI (i)), .int (iI (v))] D cI cZ z [(h0, .inr (5, [.ref h1, .ref h2, .int (iI (it)), .int (iI (mk))])), (h2, .inl (cI, 4, .inl (aI nu))), (h3, .inr (7, [.ref h4, .int (iI (Wi)), .int (iI (Hi)), .int (iI (bl)), .int (iI (sc)), .int (iI (sd)), .int (iI (no)), .int (iI (tu)), .int (iI (be)), .int (iI (sp))])), (h4, .inl (cI, 256, .inl (aI g)))] (some (.int (iI (bI (insN Wi Hi nu w i v))))) := by
  refine jRd_of (cc := cX5_isInside) (n := 5) (ret := (some .boolean)) (by decide) rfl (Nat.le_of_ble_eq_true rfl) ?_
  intro p e s m below meth c A ls args Q hQ F hA hZ hP hK hD hS hl
  obtain ⟨hx, hb, hr, hml, hown, hts, hlocks⟩ := F
  have hown : s.vm.findClass RX5 = some m.cls := hown
  have hl : lv_has ls 5 [(0, .ref h0), (1, .ref h3), (2, .int (iI (w))), (3, .int (iI (i))), (4, .int (iI (v)))] := hl
  have L9 := hts (.fieldLink RX5 9 "TinMouse$Reader" "numbers" "[I") (by decide +kernel)
  have IRX10 := hts (.initialized RX10) (by decide +kernel)
  have STyX10_at := hts (.static yX10_at) (by decide +kernel)
  have L81 := hts (.fieldLink RX5 81 "TinMouse$Table" "high" "I") (by decide +kernel)
  have L78 := hts (.fieldLink RX5 78 "TinMouse$Table" "wide" "I") (by decide +kernel)
  have UX5 : ∀ w ∈ wsX50, w ∈ wsX5_isInside := fun w h => List.mem_cons_of_mem _ (List.mem_append_right _ h)
  have UX7 : ∀ w ∈ wsX70, w ∈ wsX5_isInside := fun w h => List.mem_cons_of_mem _ (List.mem_append_left _ (List.mem_append_right _ h))
  have hn : nofW w = if w = 0 ∨ w = 3 then 2 else if w = 5 then 3 else 4 := rfl
  have hnu2 := hnu
  refine lv_iload_n hx hb dX5_isInside_0 rfl (lv_at hl 2 rfl) ?_
  refine j_if_ne (tgt := 23) hx hb (by omega) dX5_isInside_1 (by decide) (fun c_1 => ?_) (fun c_1 => ?_)
  · refine lv_iload_n hx hb dX5_isInside_23 rfl (lv_at hl 2 rfl) ?_
    refine lv_iconst (v := iI (4)) hx hb dX5_isInside_24 rfl ?_
    refine j_icmp_ne (tgt := 52) hx hb (by omega) dX5_isInside_25 (by decide) (fun c_25 => ?_) (fun c_25 => ?_)
    · refine lv_iload_n hx hb dX5_isInside_52 rfl (lv_at hl 3 rfl) ?_
      rcases (show (i < 0 ∨ 2 < i) ∨ i = 0 ∨ i = 1 ∨ i = 2 by omega) with h_53 | h_53 | h_53 | h_53
      · refine lv_tableOut (tgt := 160) hx hb dX5_isInside_53 (by rw [iI_toInt (by omega)]; exact h_53) (by decide) ?_
        refine lv_iload hx hb dX5_isInside_160 (lv_at hl 4 rfl) ?_
        refine lv_iconst (v := iI (1)) hx hb dX5_isInside_162 rfl ?_
        refine j_icmp_lt (tgt := 188) hx hb (by omega) dX5_isInside_163 (by decide) (fun c_163 => ?_) (fun c_163 => ?_)
        · refine lv_iconst (v := iI (0)) hx hb dX5_isInside_188 rfl ?_
          rw [hQ]; exact jr_zret hx hb hr hlocks jn_0 (jo_i (by unfold insN; first | (rw [if_pos (by omega)]; (first | (rw [decide_eq_true (by omega)]; rfl) | (rw [decide_eq_false (by omega)]; rfl))) | (rw [if_neg (by omega), if_pos (by omega)]; (first | (rw [decide_eq_true (by omega)]; rfl) | (rw [decide_eq_false (by omega)]; rfl))) | (rw [if_neg (by omega), if_neg (by omega), if_pos (by omega)]; (first | (rw [decide_eq_true (by omega)]; rfl) | (rw [decide_eq_false (by omega)]; rfl))) | (rw [if_neg (by omega), if_neg (by omega), if_neg (by omega), if_pos (by omega)]; (first | (rw [decide_eq_true (by omega)]; rfl) | (rw [decide_eq_false (by omega)]; rfl))) | (rw [if_neg (by omega), if_neg (by omega), if_neg (by omega), if_neg (by omega), if_pos (by omega), if_pos (by omega)]; (first | (rw [decide_eq_true (by omega)]; rfl) | (rw [decide_eq_false (by omega)]; rfl))) | (rw [if_neg (by omega), if_neg (by omega), if_neg (by omega), if_neg (by omega), if_pos (by omega), if_neg (by omega)]; (first | (rw [decide_eq_true (by omega)]; rfl) | (rw [decide_eq_false (by omega)]; rfl))) | (rw [if_neg (by omega), if_neg (by omega), if_neg (by omega), if_neg (by omega), if_neg (by omega)]; (first | (rw [decide_eq_true (by omega)]; rfl) | (rw [decide_eq_false (by omega)]; rfl))))) dX5_isInside_189
        · refine lv_aload_n hx hb dX5_isInside_166 rfl (lv_at hl 0 rfl) ?_
          refine va_get (D := D) (ci := 5) (v := .ref h2) (C := RX5) (T := TX5) (N := 4) hx hb hts UX5 hown hK hP 0 rfl rfl 1 (by decide) L9 (fun _ h9 => h9) rfl dX5_isInside_167 ?_
          refine lv_iconst (v := iI (1)) hx hb dX5_isInside_170 rfl ?_
          refine j_rd (va_runSN (As := [.ref h2, .int (iI (1))]) (rest := []) ⟨hx, hb, hml, hown, hts⟩ (c_X10_at l D cI cZ z h2 1 nu 4 (by first | assumption | omega) (by first | assumption | omega) s.heap.size) ⟨va_cnB 2 hts gX5_isInside_X10_at_n84 rfl rfl rfl (hZ.2.2.2.2.2 _ (List.mem_of_getElem? (i := 8) rfl)) IRX10 hsX10_at ⟨Nat.le_of_ble_eq_true rfl, Nat.le_of_ble_eq_true rfl⟩, STyX10_at, trivial⟩ (j_preS hP hD hK hS hZ hA [1] rfl rfl) rfl rfl hl.1 rfl (lv_room (Nat.le_of_ble_eq_true rfl)) dX5_isInside_171 ⟨Nat.zero_le _, Nat.zero_le _⟩) ?_
          refine j_top (fun n1 en1 => ?_)
          rw [atI_in (by omega)] at en1
          refine lv_iload hx hb dX5_isInside_174 (lv_at hl 4 rfl) ?_
          refine j_iadd hx hb dX5_isInside_176 ?_
          refine lv_aload_n hx hb dX5_isInside_177 rfl (lv_at hl 1 rfl) ?_
          refine va_get (D := D) (ci := 7) (v := .int (iI (Hi))) (C := RX7) (T := TX7) (N := 10) hx hb hts UX7 hown hK hP 2 rfl rfl 2 (by decide) L81 (fun _ h9 => h9) rfl dX5_isInside_178 ?_
          refine j_icmp_gt (tgt := 188) hx hb (by omega) dX5_isInside_181 (by decide) (fun c_181 => ?_) (fun c_181 => ?_)
          · refine lv_iconst (v := iI (0)) hx hb dX5_isInside_188 rfl ?_
            rw [hQ]; exact jr_zret hx hb hr hlocks jn_0 (jo_i (by unfold insN; first | (rw [if_pos (by omega)]; (first | (rw [decide_eq_true (by omega)]; rfl) | (rw [decide_eq_false (by omega)]; rfl))) | (rw [if_neg (by omega), if_pos (by omega)]; (first | (rw [decide_eq_true (by omega)]; rfl) | (rw [decide_eq_false (by omega)]; rfl))) | (rw [if_neg (by omega), if_neg (by omega), if_pos (by omega)]; (first | (rw [decide_eq_true (by omega)]; rfl) | (rw [decide_eq_false (by omega)]; rfl))) | (rw [if_neg (by omega), if_neg (by omega), if_neg (by omega), if_pos (by omega)]; (first | (rw [decide_eq_true (by omega)]; rfl) | (rw [decide_eq_false (by omega)]; rfl))) | (rw [if_neg (by omega), if_neg (by omega), if_neg (by omega), if_neg (by omega), if_pos (by omega), if_pos (by omega)]; (first | (rw [decide_eq_true (by omega)]; rfl) | (rw [decide_eq_false (by omega)]; rfl))) | (rw [if_neg (by omega), if_neg (by omega), if_neg (by omega), if_neg (by omega), if_pos (by omega), if_neg (by omega)]; (first | (rw [decide_eq_true (by omega)]; rfl) | (rw [decide_eq_false (by omega)]; rfl))) | (rw [if_neg (by omega), if_neg (by omega), if_neg (by omega), if_neg (by omega), if_neg (by omega)]; (first | (rw [decide_eq_true (by omega)]; rfl) | (rw [decide_eq_false (by omega)]; rfl))))) dX5_isInside_189
          · refine lv_iconst (v := iI (1)) hx hb dX5_isInside_184 rfl ?_
            refine lv_goto (tgt := 189) hx hb dX5_isInside_185 (by decide) ?_
            rw [hQ]; exact jr_zret hx hb hr hlocks jn_1 (jo_i (by unfold insN; first | (rw [if_pos (by omega)]; (first | (rw [decide_eq_true (by omega)]; rfl) | (rw [decide_eq_false (by omega)]; rfl))) | (rw [if_neg (by omega), if_pos (by omega)]; (first | (rw [decide_eq_true (by omega)]; rfl) | (rw [decide_eq_false (by omega)]; rfl))) | (rw [if_neg (by omega), if_neg (by omega), if_pos (by omega)]; (first | (rw [decide_eq_true (by omega)]; rfl) | (rw [decide_eq_false (by omega)]; rfl))) | (rw [if_neg (by omega), if_neg (by omega), if_neg (by omega), if_pos (by omega)]; (first | (rw [decide_eq_true (by omega)]; rfl) | (rw [decide_eq_false (by omega)]; rfl))) | (rw [if_neg (by omega), if_neg (by omega), if_neg (by omega), if_neg (by omega), if_pos (by omega), if_pos (by omega)]; (first | (rw [decide_eq_true (by omega)]; rfl) | (rw [decide_eq_false (by omega)]; rfl))) | (rw [if_neg (by omega), if_neg (by omega), if_neg (by omega), if_neg (by omega), if_pos (by omega), if_neg (by omega)]; (first | (rw [decide_eq_true (by omega)]; rfl) | (rw [decide_eq_false (by omega)]; rfl))) | (rw [if_neg (by omega), if_neg (by omega), if_neg (by omega), if_neg (by omega), if_neg (by omega)]; (first | (rw [decide_eq_true (by omega)]; rfl) | (rw [decide_eq_false (by omega)]; rfl))))) dX5_isInside_189
      · have h9 : (iI (i)).toInt = 0 := by rw [h_53]; decide
        refine lv_tableIn (tgt := 80) hx hb dX5_isInside_53 (by rw [h9]; decide) (by rw [h9]; decide) (by rw [h9]; rfl) (by decide) ?_
        refine lv_iload hx hb dX5_isInside_80 (lv_at hl 4 rfl) ?_
        refine lv_aload_n hx hb dX5_isInside_82 rfl (lv_at hl 1 rfl) ?_
        refine va_get (D := D) (ci := 7) (v := .int (iI (Wi))) (C := RX7) (T := TX7) (N := 10) hx hb hts UX7 hown hK hP 2 rfl rfl 1 (by decide) L78 (fun _ h9 => h9) rfl dX5_isInside_83 ?_
        refine j_icmp_ge (tgt := 93) hx hb (by omega) dX5_isInside_86 (by decide) (fun c_86 => ?_) (fun c_86 => ?_)
        · refine lv_iconst (v := iI (0)) hx hb dX5_isInside_93 rfl ?_
          rw [hQ]; exact jr_zret hx hb hr hlocks jn_0 (jo_i (by unfold insN; first | (rw [if_pos (by omega)]; (first | (rw [decide_eq_true (by omega)]; rfl) | (rw [decide_eq_false (by omega)]; rfl))) | (rw [if_neg (by omega), if_pos (by omega)]; (first | (rw [decide_eq_true (by omega)]; rfl) | (rw [decide_eq_false (by omega)]; rfl))) | (rw [if_neg (by omega), if_neg (by omega), if_pos (by omega)]; (first | (rw [decide_eq_true (by omega)]; rfl) | (rw [decide_eq_false (by omega)]; rfl))) | (rw [if_neg (by omega), if_neg (by omega), if_neg (by omega), if_pos (by omega)]; (first | (rw [decide_eq_true (by omega)]; rfl) | (rw [decide_eq_false (by omega)]; rfl))) | (rw [if_neg (by omega), if_neg (by omega), if_neg (by omega), if_neg (by omega), if_pos (by omega), if_pos (by omega)]; (first | (rw [decide_eq_true (by omega)]; rfl) | (rw [decide_eq_false (by omega)]; rfl))) | (rw [if_neg (by omega), if_neg (by omega), if_neg (by omega), if_neg (by omega), if_pos (by omega), if_neg (by omega)]; (first | (rw [decide_eq_true (by omega)]; rfl) | (rw [decide_eq_false (by omega)]; rfl))) | (rw [if_neg (by omega), if_neg (by omega), if_neg (by omega), if_neg (by omega), if_neg (by omega)]; (first | (rw [decide_eq_true (by omega)]; rfl) | (rw [decide_eq_false (by omega)]; rfl))))) dX5_isInside_94
        · refine lv_iconst (v := iI (1)) hx hb dX5_isInside_89 rfl ?_
          refine lv_goto (tgt := 94) hx hb dX5_isInside_90 (by decide) ?_
          rw [hQ]; exact jr_zret hx hb hr hlocks jn_1 (jo_i (by unfold insN; first | (rw [if_pos (by omega)]; (first | (rw [decide_eq_true (by omega)]; rfl) | (rw [decide_eq_false (by omega)]; rfl))) | (rw [if_neg (by omega), if_pos (by omega)]; (first | (rw [decide_eq_true (by omega)]; rfl) | (rw [decide_eq_false (by omega)]; rfl))) | (rw [if_neg (by omega), if_neg (by omega), if_pos (by omega)]; (first | (rw [decide_eq_true (by omega)]; rfl) | (rw [decide_eq_false (by omega)]; rfl))) | (rw [if_neg (by omega), if_neg (by omega), if_neg (by omega), if_pos (by omega)]; (first | (rw [decide_eq_true (by omega)]; rfl) | (rw [decide_eq_false (by omega)]; rfl))) | (rw [if_neg (by omega), if_neg (by omega), if_neg (by omega), if_neg (by omega), if_pos (by omega), if_pos (by omega)]; (first | (rw [decide_eq_true (by omega)]; rfl) | (rw [decide_eq_false (by omega)]; rfl))) | (rw [if_neg (by omega), if_neg (by omega), if_neg (by omega), if_neg (by omega), if_pos (by omega), if_neg (by omega)]; (first | (rw [decide_eq_true (by omega)]; rfl) | (rw [decide_eq_false (by omega)]; rfl))) | (rw [if_neg (by omega), if_neg (by omega), if_neg (by omega), if_neg (by omega), if_neg (by omega)]; (first | (rw [decide_eq_true (by omega)]; rfl) | (rw [decide_eq_false (by omega)]; rfl))))) dX5_isInside_94
      · have h9 : (iI (i)).toInt = 1 := by rw [h_53]; decide
        refine lv_tableIn (tgt := 95) hx hb dX5_isInside_53 (by rw [h9]; decide) (by rw [h9]; decide) (by rw [h9]; rfl) (by decide) ?_
        refine lv_iload hx hb dX5_isInside_95 (lv_at hl 4 rfl) ?_
        refine lv_aload_n hx hb dX5_isInside_97 rfl (lv_at hl 1 rfl) ?_
        refine va_get (D := D) (ci := 7) (v := .int (iI (Hi))) (C := RX7) (T := TX7) (N := 10) hx hb hts UX7 hown hK hP 2 rfl rfl 2 (by decide) L81 (fun _ h9 => h9) rfl dX5_isInside_98 ?_
        refine j_icmp_ge (tgt := 108) hx hb (by omega) dX5_isInside_101 (by decide) (fun c_101 => ?_) (fun c_101 => ?_)
        · refine lv_iconst (v := iI (0)) hx hb dX5_isInside_108 rfl ?_
          rw [hQ]; exact jr_zret hx hb hr hlocks jn_0 (jo_i (by unfold insN; first | (rw [if_pos (by omega)]; (first | (rw [decide_eq_true (by omega)]; rfl) | (rw [decide_eq_false (by omega)]; rfl))) | (rw [if_neg (by omega), if_pos (by omega)]; (first | (rw [decide_eq_true (by omega)]; rfl) | (rw [decide_eq_false (by omega)]; rfl))) | (rw [if_neg (by omega), if_neg (by omega), if_pos (by omega)]; (first | (rw [decide_eq_true (by omega)]; rfl) | (rw [decide_eq_false (by omega)]; rfl))) | (rw [if_neg (by omega), if_neg (by omega), if_neg (by omega), if_pos (by omega)]; (first | (rw [decide_eq_true (by omega)]; rfl) | (rw [decide_eq_false (by omega)]; rfl))) | (rw [if_neg (by omega), if_neg (by omega), if_neg (by omega), if_neg (by omega), if_pos (by omega), if_pos (by omega)]; (first | (rw [decide_eq_true (by omega)]; rfl) | (rw [decide_eq_false (by omega)]; rfl))) | (rw [if_neg (by omega), if_neg (by omega), if_neg (by omega), if_neg (by omega), if_pos (by omega), if_neg (by omega)]; (first | (rw [decide_eq_true (by omega)]; rfl) | (rw [decide_eq_false (by omega)]; rfl))) | (rw [if_neg (by omega), if_neg (by omega), if_neg (by omega), if_neg (by omega), if_neg (by omega)]; (first | (rw [decide_eq_true (by omega)]; rfl) | (rw [decide_eq_false (by omega)]; rfl))))) dX5_isInside_109
        · refine lv_iconst (v := iI (1)) hx hb dX5_isInside_104 rfl ?_
          refine lv_goto (tgt := 109) hx hb dX5_isInside_105 (by decide) ?_
          rw [hQ]; exact jr_zret hx hb hr hlocks jn_1 (jo_i (by unfold insN; first | (rw [if_pos (by omega)]; (first | (rw [decide_eq_true (by omega)]; rfl) | (rw [decide_eq_false (by omega)]; rfl))) | (rw [if_neg (by omega), if_pos (by omega)]; (first | (rw [decide_eq_true (by omega)]; rfl) | (rw [decide_eq_false (by omega)]; rfl))) | (rw [if_neg (by omega), if_neg (by omega), if_pos (by omega)]; (first | (rw [decide_eq_true (by omega)]; rfl) | (rw [decide_eq_false (by omega)]; rfl))) | (rw [if_neg (by omega), if_neg (by omega), if_neg (by omega), if_pos (by omega)]; (first | (rw [decide_eq_true (by omega)]; rfl) | (rw [decide_eq_false (by omega)]; rfl))) | (rw [if_neg (by omega), if_neg (by omega), if_neg (by omega), if_neg (by omega), if_pos (by omega), if_pos (by omega)]; (first | (rw [decide_eq_true (by omega)]; rfl) | (rw [decide_eq_false (by omega)]; rfl))) | (rw [if_neg (by omega), if_neg (by omega), if_neg (by omega), if_neg (by omega), if_pos (by omega), if_neg (by omega)]; (first | (rw [decide_eq_true (by omega)]; rfl) | (rw [decide_eq_false (by omega)]; rfl))) | (rw [if_neg (by omega), if_neg (by omega), if_neg (by omega), if_neg (by omega), if_neg (by omega)]; (first | (rw [decide_eq_true (by omega)]; rfl) | (rw [decide_eq_false (by omega)]; rfl))))) dX5_isInside_109
      · have h9 : (iI (i)).toInt = 2 := by rw [h_53]; decide
        refine lv_tableIn (tgt := 110) hx hb dX5_isInside_53 (by rw [h9]; decide) (by rw [h9]; decide) (by rw [h9]; rfl) (by decide) ?_
        refine lv_iload_n hx hb dX5_isInside_110 rfl (lv_at hl 2 rfl) ?_
        refine lv_iconst (v := iI (5)) hx hb dX5_isInside_111 rfl ?_
        refine j_icmp_ne (tgt := 130) hx hb (by omega) dX5_isInside_112 (by decide) (fun c_112 => ?_) (fun c_112 => ?_)
        · refine lv_iload hx hb dX5_isInside_130 (lv_at hl 4 rfl) ?_
          refine lv_iconst (v := iI (1)) hx hb dX5_isInside_132 rfl ?_
          refine j_icmp_lt (tgt := 158) hx hb (by omega) dX5_isInside_133 (by decide) (fun c_133 => ?_) (fun c_133 => ?_)
          · refine lv_iconst (v := iI (0)) hx hb dX5_isInside_158 rfl ?_
            rw [hQ]; exact jr_zret hx hb hr hlocks jn_0 (jo_i (by unfold insN; first | (rw [if_pos (by omega)]; (first | (rw [decide_eq_true (by omega)]; rfl) | (rw [decide_eq_false (by omega)]; rfl))) | (rw [if_neg (by omega), if_pos (by omega)]; (first | (rw [decide_eq_true (by omega)]; rfl) | (rw [decide_eq_false (by omega)]; rfl))) | (rw [if_neg (by omega), if_neg (by omega), if_pos (by omega)]; (first | (rw [decide_eq_true (by omega)]; rfl) | (rw [decide_eq_false (by omega)]; rfl))) | (rw [if_neg (by omega), if_neg (by omega), if_neg (by omega), if_pos (by omega)]; (first | (rw [decide_eq_true (by omega)]; rfl) | (rw [decide_eq_false (by omega)]; rfl))) | (rw [if_neg (by omega), if_neg (by omega), if_neg (by omega), if_neg (by omega), if_pos (by omega), if_pos (by omega)]; (first | (rw [decide_eq_true (by omega)]; rfl) | (rw [decide_eq_false (by omega)]; rfl))) | (rw [if_neg (by omega), if_neg (by omega), if_neg (by omega), if_neg (by omega), if_pos (by omega), if_neg (by omega)]; (first | (rw [decide_eq_true (by omega)]; rfl) | (rw [decide_eq_false (by omega)]; rfl))) | (rw [if_neg (by omega), if_neg (by omega), if_neg (by omega), if_neg (by omega), if_neg (by omega)]; (first | (rw [decide_eq_true (by omega)]; rfl) | (rw [decide_eq_false (by omega)]; rfl))))) dX5_isInside_159
          · refine lv_aload_n hx hb dX5_isInside_136 rfl (lv_at hl 0 rfl) ?_
            refine va_get (D := D) (ci := 5) (v := .ref h2) (C := RX5) (T := TX5) (N := 4) hx hb hts UX5 hown hK hP 0 rfl rfl 1 (by decide) L9 (fun _ h9 => h9) rfl dX5_isInside_137 ?_
            refine lv_iconst (v := iI (0)) hx hb dX5_isInside_140 rfl ?_
            refine j_rd (va_runSN (As := [.ref h2, .int (iI (0))]) (rest := []) ⟨hx, hb, hml, hown, hts⟩ (c_X10_at l D cI cZ z h2 0 nu 4 (by first | assumption | omega) (by first | assumption | omega) s.heap.size) ⟨va_cnB 2 hts gX5_isInside_X10_at_n84 rfl rfl rfl (hZ.2.2.2.2.2 _ (List.mem_of_getElem? (i := 8) rfl)) IRX10 hsX10_at ⟨Nat.le_of_ble_eq_true rfl, Nat.le_of_ble_eq_true rfl⟩, STyX10_at, trivial⟩ (j_preS hP hD hK hS hZ hA [1] rfl rfl) rfl rfl hl.1 rfl (lv_room (Nat.le_of_ble_eq_true rfl)) dX5_isInside_141 ⟨Nat.zero_le _, Nat.zero_le _⟩) ?_
            refine j_top (fun n0 en0 => ?_)
            rw [atI_in (by omega)] at en0
            refine lv_iload hx hb dX5_isInside_144 (lv_at hl 4 rfl) ?_
            refine j_iadd hx hb dX5_isInside_146 ?_
            refine lv_aload_n hx hb dX5_isInside_147 rfl (lv_at hl 1 rfl) ?_
            refine va_get (D := D) (ci := 7) (v := .int (iI (Wi))) (C := RX7) (T := TX7) (N := 10) hx hb hts UX7 hown hK hP 2 rfl rfl 1 (by decide) L78 (fun _ h9 => h9) rfl dX5_isInside_148 ?_
            refine j_icmp_gt (tgt := 158) hx hb (by omega) dX5_isInside_151 (by decide) (fun c_151 => ?_) (fun c_151 => ?_)
            · refine lv_iconst (v := iI (0)) hx hb dX5_isInside_158 rfl ?_
              rw [hQ]; exact jr_zret hx hb hr hlocks jn_0 (jo_i (by unfold insN; first | (rw [if_pos (by omega)]; (first | (rw [decide_eq_true (by omega)]; rfl) | (rw [decide_eq_false (by omega)]; rfl))) | (rw [if_neg (by omega), if_pos (by omega)]; (first | (rw [decide_eq_true (by omega)]; rfl) | (rw [decide_eq_false (by omega)]; rfl))) | (rw [if_neg (by omega), if_neg (by omega), if_pos (by omega)]; (first | (rw [decide_eq_true (by omega)]; rfl) | (rw [decide_eq_false (by omega)]; rfl))) | (rw [if_neg (by omega), if_neg (by omega), if_neg (by omega), if_pos (by omega)]; (first | (rw [decide_eq_true (by omega)]; rfl) | (rw [decide_eq_false (by omega)]; rfl))) | (rw [if_neg (by omega), if_neg (by omega), if_neg (by omega), if_neg (by omega), if_pos (by omega), if_pos (by omega)]; (first | (rw [decide_eq_true (by omega)]; rfl) | (rw [decide_eq_false (by omega)]; rfl))) | (rw [if_neg (by omega), if_neg (by omega), if_neg (by omega), if_neg (by omega), if_pos (by omega), if_neg (by omega)]; (first | (rw [decide_eq_true (by omega)]; rfl) | (rw [decide_eq_false (by omega)]; rfl))) | (rw [if_neg (by omega), if_neg (by omega), if_neg (by omega), if_neg (by omega), if_neg (by omega)]; (first | (rw [decide_eq_true (by omega)]; rfl) | (rw [decide_eq_false (by omega)]; rfl))))) dX5_isInside_159
            · refine lv_iconst (v := iI (1)) hx hb dX5_isInside_154 rfl ?_
              refine lv_goto (tgt := 159) hx hb dX5_isInside_155 (by decide) ?_
              rw [hQ]; exact jr_zret hx hb hr hlocks jn_1 (jo_i (by unfold insN; first | (rw [if_pos (by omega)]; (first | (rw [decide_eq_true (by omega)]; rfl) | (rw [decide_eq_false (by omega)]; rfl))) | (rw [if_neg (by omega), if_pos (by omega)]; (first | (rw [decide_eq_true (by omega)]; rfl) | (rw [decide_eq_false (by omega)]; rfl))) | (rw [if_neg (by omega), if_neg (by omega), if_pos (by omega)]; (first | (rw [decide_eq_true (by omega)]; rfl) | (rw [decide_eq_false (by omega)]; rfl))) | (rw [if_neg (by omega), if_neg (by omega), if_neg (by omega), if_pos (by omega)]; (first | (rw [decide_eq_true (by omega)]; rfl) | (rw [decide_eq_false (by omega)]; rfl))) | (rw [if_neg (by omega), if_neg (by omega), if_neg (by omega), if_neg (by omega), if_pos (by omega), if_pos (by omega)]; (first | (rw [decide_eq_true (by omega)]; rfl) | (rw [decide_eq_false (by omega)]; rfl))) | (rw [if_neg (by omega), if_neg (by omega), if_neg (by omega), if_neg (by omega), if_pos (by omega), if_neg (by omega)]; (first | (rw [decide_eq_true (by omega)]; rfl) | (rw [decide_eq_false (by omega)]; rfl))) | (rw [if_neg (by omega), if_neg (by omega), if_neg (by omega), if_neg (by omega), if_neg (by omega)]; (first | (rw [decide_eq_true (by omega)]; rfl) | (rw [decide_eq_false (by omega)]; rfl))))) dX5_isInside_159
        · refine lv_iload hx hb dX5_isInside_115 (lv_at hl 4 rfl) ?_
          refine lv_bipush (v := iI (7)) hx hb dX5_isInside_117 (by decide) ?_
          refine j_icmp_gt (tgt := 126) hx hb (by omega) dX5_isInside_119 (by decide) (fun c_119 => ?_) (fun c_119 => ?_)
          · refine lv_iconst (v := iI (0)) hx hb dX5_isInside_126 rfl ?_
            refine lv_goto (tgt := 159) hx hb dX5_isInside_127 (by decide) ?_
            rw [hQ]; exact jr_zret hx hb hr hlocks jn_0 (jo_i (by unfold insN; first | (rw [if_pos (by omega)]; (first | (rw [decide_eq_true (by omega)]; rfl) | (rw [decide_eq_false (by omega)]; rfl))) | (rw [if_neg (by omega), if_pos (by omega)]; (first | (rw [decide_eq_true (by omega)]; rfl) | (rw [decide_eq_false (by omega)]; rfl))) | (rw [if_neg (by omega), if_neg (by omega), if_pos (by omega)]; (first | (rw [decide_eq_true (by omega)]; rfl) | (rw [decide_eq_false (by omega)]; rfl))) | (rw [if_neg (by omega), if_neg (by omega), if_neg (by omega), if_pos (by omega)]; (first | (rw [decide_eq_true (by omega)]; rfl) | (rw [decide_eq_false (by omega)]; rfl))) | (rw [if_neg (by omega), if_neg (by omega), if_neg (by omega), if_neg (by omega), if_pos (by omega), if_pos (by omega)]; (first | (rw [decide_eq_true (by omega)]; rfl) | (rw [decide_eq_false (by omega)]; rfl))) | (rw [if_neg (by omega), if_neg (by omega), if_neg (by omega), if_neg (by omega), if_pos (by omega), if_neg (by omega)]; (first | (rw [decide_eq_true (by omega)]; rfl) | (rw [decide_eq_false (by omega)]; rfl))) | (rw [if_neg (by omega), if_neg (by omega), if_neg (by omega), if_neg (by omega), if_neg (by omega)]; (first | (rw [decide_eq_true (by omega)]; rfl) | (rw [decide_eq_false (by omega)]; rfl))))) dX5_isInside_159
          · refine lv_iconst (v := iI (1)) hx hb dX5_isInside_122 rfl ?_
            refine lv_goto (tgt := 159) hx hb dX5_isInside_123 (by decide) ?_
            rw [hQ]; exact jr_zret hx hb hr hlocks jn_1 (jo_i (by unfold insN; first | (rw [if_pos (by omega)]; (first | (rw [decide_eq_true (by omega)]; rfl) | (rw [decide_eq_false (by omega)]; rfl))) | (rw [if_neg (by omega), if_pos (by omega)]; (first | (rw [decide_eq_true (by omega)]; rfl) | (rw [decide_eq_false (by omega)]; rfl))) | (rw [if_neg (by omega), if_neg (by omega), if_pos (by omega)]; (first | (rw [decide_eq_true (by omega)]; rfl) | (rw [decide_eq_false (by omega)]; rfl))) | (rw [if_neg (by omega), if_neg (by omega), if_neg (by omega), if_pos (by omega)]; (first | (rw [decide_eq_true (by omega)]; rfl) | (rw [decide_eq_false (by omega)]; rfl))) | (rw [if_neg (by omega), if_neg (by omega), if_neg (by omega), if_neg (by omega), if_pos (by omega), if_pos (by omega)]; (first | (rw [decide_eq_true (by omega)]; rfl) | (rw [decide_eq_false (by omega)]; rfl))) | (rw [if_neg (by omega), if_neg (by omega), if_neg (by omega), if_neg (by omega), if_pos (by omega), if_neg (by omega)]; (first | (rw [decide_eq_true (by omega)]; rfl) | (rw [decide_eq_false (by omega)]; rfl))) | (rw [if_neg (by omega), if_neg (by omega), if_neg (by omega), if_neg (by omega), if_neg (by omega)]; (first | (rw [decide_eq_true (by omega)]; rfl) | (rw [decide_eq_false (by omega)]; rfl))))) dX5_isInside_159
    · refine lv_iload hx hb dX5_isInside_28 (lv_at hl 4 rfl) ?_
      refine lv_iload_n hx hb dX5_isInside_30 rfl (lv_at hl 3 rfl) ?_
      refine j_rd (va_runS (As := [.int (iI (i))]) (rest := [.int (iI (v))]) ⟨hx, hb, hml, hown, hts⟩ (c_X5_leastOfToy l D cI cZ z i (by first | assumption | omega) s.heap.size) (va_cwS 1 hts gX5_isInside_X5_leastOfToy rfl rfl rfl hsX5_leastOfToy ⟨Nat.le_of_ble_eq_true rfl, Nat.le_of_ble_eq_true rfl⟩) (j_preS hP hD hK hS hZ hA [] rfl rfl) rfl rfl hl.1 rfl (lv_room (Nat.le_of_ble_eq_true rfl)) dX5_isInside_31 ⟨Nat.zero_le _, Nat.zero_le _⟩) ?_
      refine j_icmp_lt (tgt := 50) hx hb (by omega) dX5_isInside_34 (by decide) (fun c_34 => ?_) (fun c_34 => ?_)
      · refine lv_iconst (v := iI (0)) hx hb dX5_isInside_50 rfl ?_
        rw [hQ]; exact jr_zret hx hb hr hlocks jn_0 (jo_i (by unfold insN; first | (rw [if_pos (by omega)]; (first | (rw [decide_eq_true (by omega)]; rfl) | (rw [decide_eq_false (by omega)]; rfl))) | (rw [if_neg (by omega), if_pos (by omega)]; (first | (rw [decide_eq_true (by omega)]; rfl) | (rw [decide_eq_false (by omega)]; rfl))) | (rw [if_neg (by omega), if_neg (by omega), if_pos (by omega)]; (first | (rw [decide_eq_true (by omega)]; rfl) | (rw [decide_eq_false (by omega)]; rfl))) | (rw [if_neg (by omega), if_neg (by omega), if_neg (by omega), if_pos (by omega)]; (first | (rw [decide_eq_true (by omega)]; rfl) | (rw [decide_eq_false (by omega)]; rfl))) | (rw [if_neg (by omega), if_neg (by omega), if_neg (by omega), if_neg (by omega), if_pos (by omega), if_pos (by omega)]; (first | (rw [decide_eq_true (by omega)]; rfl) | (rw [decide_eq_false (by omega)]; rfl))) | (rw [if_neg (by omega), if_neg (by omega), if_neg (by omega), if_neg (by omega), if_pos (by omega), if_neg (by omega)]; (first | (rw [decide_eq_true (by omega)]; rfl) | (rw [decide_eq_false (by omega)]; rfl))) | (rw [if_neg (by omega), if_neg (by omega), if_neg (by omega), if_neg (by omega), if_neg (by omega)]; (first | (rw [decide_eq_true (by omega)]; rfl) | (rw [decide_eq_false (by omega)]; rfl))))) dX5_isInside_51
      · refine lv_iload hx hb dX5_isInside_37 (lv_at hl 4 rfl) ?_
        refine lv_iload_n hx hb dX5_isInside_39 rfl (lv_at hl 3 rfl) ?_
        refine j_rd (va_runS (As := [.int (iI (i))]) (rest := [.int (iI (v))]) ⟨hx, hb, hml, hown, hts⟩ (c_X5_mostOfToy l D cI cZ z i (by first | assumption | omega) s.heap.size) (va_cwS 1 hts gX5_isInside_X5_mostOfToy rfl rfl rfl hsX5_mostOfToy ⟨Nat.le_of_ble_eq_true rfl, Nat.le_of_ble_eq_true rfl⟩) (j_preS hP hD hK hS hZ hA [] rfl rfl) rfl rfl hl.1 rfl (lv_room (Nat.le_of_ble_eq_true rfl)) dX5_isInside_40 ⟨Nat.zero_le _, Nat.zero_le _⟩) ?_
        refine j_icmp_gt (tgt := 50) hx hb (by omega) dX5_isInside_43 (by decide) (fun c_43 => ?_) (fun c_43 => ?_)
        · refine lv_iconst (v := iI (0)) hx hb dX5_isInside_50 rfl ?_
          rw [hQ]; exact jr_zret hx hb hr hlocks jn_0 (jo_i (by unfold insN; first | (rw [if_pos (by omega)]; (first | (rw [decide_eq_true (by omega)]; rfl) | (rw [decide_eq_false (by omega)]; rfl))) | (rw [if_neg (by omega), if_pos (by omega)]; (first | (rw [decide_eq_true (by omega)]; rfl) | (rw [decide_eq_false (by omega)]; rfl))) | (rw [if_neg (by omega), if_neg (by omega), if_pos (by omega)]; (first | (rw [decide_eq_true (by omega)]; rfl) | (rw [decide_eq_false (by omega)]; rfl))) | (rw [if_neg (by omega), if_neg (by omega), if_neg (by omega), if_pos (by omega)]; (first | (rw [decide_eq_true (by omega)]; rfl) | (rw [decide_eq_false (by omega)]; rfl))) | (rw [if_neg (by omega), if_neg (by omega), if_neg (by omega), if_neg (by omega), if_pos (by omega), if_pos (by omega)]; (first | (rw [decide_eq_true (by omega)]; rfl) | (rw [decide_eq_false (by omega)]; rfl))) | (rw [if_neg (by omega), if_neg (by omega), if_neg (by omega), if_neg (by omega), if_pos (by omega), if_neg (by omega)]; (first | (rw [decide_eq_true (by omega)]; rfl) | (rw [decide_eq_false (by omega)]; rfl))) | (rw [if_neg (by omega), if_neg (by omega), if_neg (by omega), if_neg (by omega), if_neg (by omega)]; (first | (rw [decide_eq_true (by omega)]; rfl) | (rw [decide_eq_false (by omega)]; rfl))))) dX5_isInside_51
        · refine lv_iconst (v := iI (1)) hx hb dX5_isInside_46 rfl ?_
          refine lv_goto (tgt := 51) hx hb dX5_isInside_47 (by decide) ?_
          rw [hQ]; exact jr_zret hx hb hr hlocks jn_1 (jo_i (by unfold insN; first | (rw [if_pos (by omega)]; (first | (rw [decide_eq_true (by omega)]; rfl) | (rw [decide_eq_false (by omega)]; rfl))) | (rw [if_neg (by omega), if_pos (by omega)]; (first | (rw [decide_eq_true (by omega)]; rfl) | (rw [decide_eq_false (by omega)]; rfl))) | (rw [if_neg (by omega), if_neg (by omega), if_pos (by omega)]; (first | (rw [decide_eq_true (by omega)]; rfl) | (rw [decide_eq_false (by omega)]; rfl))) | (rw [if_neg (by omega), if_neg (by omega), if_neg (by omega), if_pos (by omega)]; (first | (rw [decide_eq_true (by omega)]; rfl) | (rw [decide_eq_false (by omega)]; rfl))) | (rw [if_neg (by omega), if_neg (by omega), if_neg (by omega), if_neg (by omega), if_pos (by omega), if_pos (by omega)]; (first | (rw [decide_eq_true (by omega)]; rfl) | (rw [decide_eq_false (by omega)]; rfl))) | (rw [if_neg (by omega), if_neg (by omega), if_neg (by omega), if_neg (by omega), if_pos (by omega), if_neg (by omega)]; (first | (rw [decide_eq_true (by omega)]; rfl) | (rw [decide_eq_false (by omega)]; rfl))) | (rw [if_neg (by omega), if_neg (by omega), if_neg (by omega), if_neg (by omega), if_neg (by omega)]; (first | (rw [decide_eq_true (by omega)]; rfl) | (rw [decide_eq_false (by omega)]; rfl))))) dX5_isInside_51
  · refine lv_iload hx hb dX5_isInside_4 (lv_at hl 4 rfl) ?_
    refine lv_iconst (v := iI (3)) hx hb dX5_isInside_6 rfl ?_
    refine j_icmp_lt (tgt := 21) hx hb (by omega) dX5_isInside_7 (by decide) (fun c_7 => ?_) (fun c_7 => ?_)
    · refine lv_iconst (v := iI (0)) hx hb dX5_isInside_21 rfl ?_
      rw [hQ]; exact jr_zret hx hb hr hlocks jn_0 (jo_i (by unfold insN; first | (rw [if_pos (by omega)]; (first | (rw [decide_eq_true (by omega)]; rfl) | (rw [decide_eq_false (by omega)]; rfl))) | (rw [if_neg (by omega), if_pos (by omega)]; (first | (rw [decide_eq_true (by omega)]; rfl) | (rw [decide_eq_false (by omega)]; rfl))) | (rw [if_neg (by omega), if_neg (by omega), if_pos (by omega)]; (first | (rw [decide_eq_true (by omega)]; rfl) | (rw [decide_eq_false (by omega)]; rfl))) | (rw [if_neg (by omega), if_neg (by omega), if_neg (by omega), if_pos (by omega)]; (first | (rw [decide_eq_true (by omega)]; rfl) | (rw [decide_eq_false (by omega)]; rfl))) | (rw [if_neg (by omega), if_neg (by omega), if_neg (by omega), if_neg (by omega), if_pos (by omega), if_pos (by omega)]; (first | (rw [decide_eq_true (by omega)]; rfl) | (rw [decide_eq_false (by omega)]; rfl))) | (rw [if_neg (by omega), if_neg (by omega), if_neg (by omega), if_neg (by omega), if_pos (by omega), if_neg (by omega)]; (first | (rw [decide_eq_true (by omega)]; rfl) | (rw [decide_eq_false (by omega)]; rfl))) | (rw [if_neg (by omega), if_neg (by omega), if_neg (by omega), if_neg (by omega), if_neg (by omega)]; (first | (rw [decide_eq_true (by omega)]; rfl) | (rw [decide_eq_false (by omega)]; rfl))))) dX5_isInside_22
    · refine lv_iload hx hb dX5_isInside_10 (lv_at hl 4 rfl) ?_
      refine lv_bipush (v := iI (16)) hx hb dX5_isInside_12 (by decide) ?_
      refine j_icmp_gt (tgt := 21) hx hb (by omega) dX5_isInside_14 (by decide) (fun c_14 => ?_) (fun c_14 => ?_)
      · refine lv_iconst (v := iI (0)) hx hb dX5_isInside_21 rfl ?_
        rw [hQ]; exact jr_zret hx hb hr hlocks jn_0 (jo_i (by unfold insN; first | (rw [if_pos (by omega)]; (first | (rw [decide_eq_true (by omega)]; rfl) | (rw [decide_eq_false (by omega)]; rfl))) | (rw [if_neg (by omega), if_pos (by omega)]; (first | (rw [decide_eq_true (by omega)]; rfl) | (rw [decide_eq_false (by omega)]; rfl))) | (rw [if_neg (by omega), if_neg (by omega), if_pos (by omega)]; (first | (rw [decide_eq_true (by omega)]; rfl) | (rw [decide_eq_false (by omega)]; rfl))) | (rw [if_neg (by omega), if_neg (by omega), if_neg (by omega), if_pos (by omega)]; (first | (rw [decide_eq_true (by omega)]; rfl) | (rw [decide_eq_false (by omega)]; rfl))) | (rw [if_neg (by omega), if_neg (by omega), if_neg (by omega), if_neg (by omega), if_pos (by omega), if_pos (by omega)]; (first | (rw [decide_eq_true (by omega)]; rfl) | (rw [decide_eq_false (by omega)]; rfl))) | (rw [if_neg (by omega), if_neg (by omega), if_neg (by omega), if_neg (by omega), if_pos (by omega), if_neg (by omega)]; (first | (rw [decide_eq_true (by omega)]; rfl) | (rw [decide_eq_false (by omega)]; rfl))) | (rw [if_neg (by omega), if_neg (by omega), if_neg (by omega), if_neg (by omega), if_neg (by omega)]; (first | (rw [decide_eq_true (by omega)]; rfl) | (rw [decide_eq_false (by omega)]; rfl))))) dX5_isInside_22
      · refine lv_iconst (v := iI (1)) hx hb dX5_isInside_17 rfl ?_
        refine lv_goto (tgt := 22) hx hb dX5_isInside_18 (by decide) ?_
        rw [hQ]; exact jr_zret hx hb hr hlocks jn_1 (jo_i (by unfold insN; first | (rw [if_pos (by omega)]; (first | (rw [decide_eq_true (by omega)]; rfl) | (rw [decide_eq_false (by omega)]; rfl))) | (rw [if_neg (by omega), if_pos (by omega)]; (first | (rw [decide_eq_true (by omega)]; rfl) | (rw [decide_eq_false (by omega)]; rfl))) | (rw [if_neg (by omega), if_neg (by omega), if_pos (by omega)]; (first | (rw [decide_eq_true (by omega)]; rfl) | (rw [decide_eq_false (by omega)]; rfl))) | (rw [if_neg (by omega), if_neg (by omega), if_neg (by omega), if_pos (by omega)]; (first | (rw [decide_eq_true (by omega)]; rfl) | (rw [decide_eq_false (by omega)]; rfl))) | (rw [if_neg (by omega), if_neg (by omega), if_neg (by omega), if_neg (by omega), if_pos (by omega), if_pos (by omega)]; (first | (rw [decide_eq_true (by omega)]; rfl) | (rw [decide_eq_false (by omega)]; rfl))) | (rw [if_neg (by omega), if_neg (by omega), if_neg (by omega), if_neg (by omega), if_pos (by omega), if_neg (by omega)]; (first | (rw [decide_eq_true (by omega)]; rfl) | (rw [decide_eq_false (by omega)]; rfl))) | (rw [if_neg (by omega), if_neg (by omega), if_neg (by omega), if_neg (by omega), if_neg (by omega)]; (first | (rw [decide_eq_true (by omega)]; rfl) | (rw [decide_eq_false (by omega)]; rfl))))) dX5_isInside_22
abbrev rmX7_lay : Room := { frames := 1, cells := 0, slots := 0, locals := 22 }
set_option maxHeartbeats 4000000 in
set_option maxRecDepth 100000 in
theorem c_X7_lay (l : Launch) (D : va_G) (cI cZ : ClassId) (z : jZT) (h0 h1 : Nat) (kd9 x y a b Wi Hi bl sc sd no tu be sp : Int) (g : Int → Int) (hW : 3 ≤ Wi ∧ Wi ≤ 16) (hH : 3 ≤ Hi ∧ Hi ≤ 16) (hg : ∀ j : Int, 0 ≤ j → j < 256 → 0 ≤ g j ∧ g j ≤ 2) (hkd : kd9 = 1 ∨ kd9 = 2) (hx9 : 0 ≤ x ∧ 1 ≤ a ∧ x + a ≤ Wi) (hy9 : 0 ≤ y ∧ 1 ≤ b ∧ y + b ≤ Hi) : jMu (S := (Int → Int)) l yX7_lay wsX7_lay rmX7_lay [.ref h0, .int (iI (kd9)), .int (iI (x)), .int (iI (y)), .int (iI (a)), .int (iI (b))] D cI cZ z [(h0, .inr (7, [.ref h1, .int (iI (Wi)), .int (iI (Hi)), .int (iI (bl)), .int (iI (sc)), .int (iI (sd)), .int (iI (no)), .int (iI (tu)), .int (iI (be)), .int (iI (sp))])), (h1, .inl (cI, 256, .inl (aI g)))] (fun u => none) (fun u => u = layF Wi g kd9 x y a b) (fun u => [(h0, .inr (7, [.ref h1, .int (iI (Wi)), .int (iI (Hi)), .int (iI (bl)), .int (iI (sc)), .int (iI (sd)), .int (iI (no)), .int (iI (tu)), .int (iI (be)), .int (iI (sp))])), (h1, .inl (cI, 256, .inl (aI u)))]) := by
  refine jMu_of (cc := cX7_lay) (n := 9) (ret := none) (by decide) rfl (Nat.le_of_ble_eq_true rfl) ?_
  intro p e s m below meth c A ls args Q hQ F hA hZ hP hK hD hS hl
  obtain ⟨hx, hb, hr, hml, hown, hts, hlocks⟩ := F
  have hown : s.vm.findClass RX7 = some m.cls := hown
  have hl : lv_has ls 9 [(0, .ref h0), (1, .int (iI (kd9))), (2, .int (iI (x))), (3, .int (iI (y))), (4, .int (iI (a))), (5, .int (iI (b)))] := hl
  have L22 := hts (.fieldLink RX7 22 "TinMouse$Table" "high" "I") (by decide +kernel)
  have L18 := hts (.fieldLink RX7 18 "TinMouse$Table" "wide" "I") (by decide +kernel)
  have L9 := hts (.fieldLink RX7 9 "TinMouse$Table" "kinds" "[I") (by decide +kernel)
  have IRX10 := hts (.initialized RX10) (by decide +kernel)
  have STyX10_set := hts (.static yX10_set) (by decide +kernel)
  have UX7 : ∀ w ∈ wsX70, w ∈ wsX7_lay := fun w h => List.mem_cons_of_mem _ (List.mem_append_right _ h)
  have hwh := wh_rng hW hH
  refine lv_iload_n hx hb dX7_lay_0 rfl (lv_at hl 3 rfl) ?_
  refine lv_istore (lv' := [(6, .int (iI (y))), (0, .ref h0), (1, .int (iI (kd9))), (2, .int (iI (x))), (3, .int (iI (y))), (4, .int (iI (a))), (5, .int (iI (b)))]) hx hb dX7_lay_1 hl (by decide) rfl (fun ls hl => ?_)
  have loop_3 : ∀ (fuel_3 : Nat) (r : Int) (g8 : Int → Int), (y ≤ r ∧ r ≤ y + b ∧ layP Wi g g8 kd9 x y a r x) → (y + b - r).toNat < fuel_3 → ∀ (H : Heap) (locs : List Loc), va_P D vwCl [(h0, .inr (7, [.ref h1, .int (iI (Wi)), .int (iI (Hi)), .int (iI (bl)), .int (iI (sc)), .int (iI (sd)), .int (iI (no)), .int (iI (tu)), .int (iI (be)), .int (iI (sp))])), (h1, .inl (cI, 256, .inl (aI g8)))] H → va_D A [(h0, .inr (7, [.ref h1, .int (iI (Wi)), .int (iI (Hi)), .int (iI (bl)), .int (iI (sc)), .int (iI (sd)), .int (iI (no)), .int (iI (tu)), .int (iI (be)), .int (iI (sp))])), (h1, .inl (cI, 256, .inl (aI g8)))] → va_S A s.heap H locs → ∀ ls : Array Slot, lv_has ls 9 [(0, .ref h0), (1, .int (iI (kd9))), (2, .int (iI (x))), (3, .int (iI (y))), (4, .int (iI (a))), (5, .int (iI (b))), (6, .int (iI (r)))] → W p l e rmX7_lay s m args below meth c H locs 0 0 Q (F0 m 3 ls []) := by
    intro fuel_3
    induction fuel_3 with
    | zero => intro r g8 hI9 hm9; exact absurd hm9 (Nat.not_lt_zero _)
    | succ fuel_3 ih_3 =>
      intro r g8 hI_3 hm_3 H locs hP hD hS ls hl
      obtain ⟨hi1, hi2, hi3⟩ := hI_3
      refine lv_iload hx hb dX7_lay_3 (lv_at hl 6 rfl) ?_
      refine lv_iload_n hx hb dX7_lay_5 rfl (lv_at hl 3 rfl) ?_
      refine lv_iload hx hb dX7_lay_6 (lv_at hl 5 rfl) ?_
      refine j_iadd hx hb dX7_lay_8 ?_
      refine j_icmp_ge (tgt := 88) hx hb (by omega) dX7_lay_9 (by decide) (fun c_9 => ?_) (fun c_9 => ?_)
      · rw [hQ]; exact jm_vret g8 hx hb hr hlocks hS hP rfl (by (try dsimp only); exact layP_end (by omega) hi3) dX7_lay_88
      · refine lv_iload hx hb dX7_lay_12 (lv_at hl 6 rfl) ?_
        refine lv_aload_n hx hb dX7_lay_14 rfl (lv_at hl 0 rfl) ?_
        refine va_get (D := D) (ci := 7) (v := .int (iI (Hi))) (C := RX7) (T := TX7) (N := 10) hx hb hts UX7 hown hK hP 0 rfl rfl 2 (by decide) L22 (fun _ h9 => h9) rfl dX7_lay_15 ?_
        refine j_icmp_ge (tgt := 88) hx hb (by omega) dX7_lay_18 (by decide) (fun c_18 => ?_) (fun c_18 => ?_)
        · exact False.elim (by omega)
        · refine lv_iload_n hx hb dX7_lay_21 rfl (lv_at hl 2 rfl) ?_
          refine lv_istore (lv' := [(7, .int (iI (x))), (0, .ref h0), (1, .int (iI (kd9))), (2, .int (iI (x))), (3, .int (iI (y))), (4, .int (iI (a))), (5, .int (iI (b))), (6, .int (iI (r)))]) hx hb dX7_lay_22 hl (by decide) rfl (fun ls hl => ?_)
          have loop_24 : ∀ (fuel_24 : Nat) (q : Int) (g9 : Int → Int), (x ≤ q ∧ q ≤ x + a ∧ layP Wi g g9 kd9 x y a r q) → (x + a - q).toNat < fuel_24 → ∀ (H : Heap) (locs : List Loc), va_P D vwCl [(h0, .inr (7, [.ref h1, .int (iI (Wi)), .int (iI (Hi)), .int (iI (bl)), .int (iI (sc)), .int (iI (sd)), .int (iI (no)), .int (iI (tu)), .int (iI (be)), .int (iI (sp))])), (h1, .inl (cI, 256, .inl (aI g9)))] H → va_D A [(h0, .inr (7, [.ref h1, .int (iI (Wi)), .int (iI (Hi)), .int (iI (bl)), .int (iI (sc)), .int (iI (sd)), .int (iI (no)), .int (iI (tu)), .int (iI (be)), .int (iI (sp))])), (h1, .inl (cI, 256, .inl (aI g9)))] → va_S A s.heap H locs → ∀ ls : Array Slot, lv_has ls 9 [(0, .ref h0), (1, .int (iI (kd9))), (2, .int (iI (x))), (3, .int (iI (y))), (4, .int (iI (a))), (5, .int (iI (b))), (6, .int (iI (r))), (7, .int (iI (q)))] → W p l e rmX7_lay s m args below meth c H locs 0 0 Q (F0 m 24 ls []) := by
            intro fuel_24
            induction fuel_24 with
            | zero => intro q g9 hI9 hm9; exact absurd hm9 (Nat.not_lt_zero _)
            | succ fuel_24 ih_24 =>
              intro q g9 hI_24 hm_24 H locs hP hD hS ls hl
              obtain ⟨hj1, hj2, hj3⟩ := hI_24
              refine lv_iload hx hb dX7_lay_24 (lv_at hl 7 rfl) ?_
              refine lv_iload_n hx hb dX7_lay_26 rfl (lv_at hl 2 rfl) ?_
              refine lv_iload hx hb dX7_lay_27 (lv_at hl 4 rfl) ?_
              refine j_iadd hx hb dX7_lay_29 ?_
              refine j_icmp_ge (tgt := 82) hx hb (by omega) dX7_lay_30 (by decide) (fun c_30 => ?_) (fun c_30 => ?_)
              · refine lv_iinc (v := iI (r + 1)) (lv' := [(6, .int (iI (r + 1))), (0, .ref h0), (1, .int (iI (kd9))), (2, .int (iI (x))), (3, .int (iI (y))), (4, .int (iI (a))), (5, .int (iI (b))), (7, .int (iI (q)))]) hx hb dX7_lay_82 hl (k := 6) rfl (iI_add _ _) (by decide) rfl (fun ls hl => ?_)
                refine lv_goto (tgt := 3) hx hb dX7_lay_85 (by decide) ?_
                exact ih_3 ((r + 1)) g9 (by exact ⟨by omega, by omega, layP_row hi1 (by omega) hj3⟩) (by omega) H locs hP hD hS ls (lv_sub hl [1, 2, 3, 4, 5, 6, 0] rfl)
              · refine lv_iload hx hb dX7_lay_33 (lv_at hl 7 rfl) ?_
                refine lv_aload_n hx hb dX7_lay_35 rfl (lv_at hl 0 rfl) ?_
                refine va_get (D := D) (ci := 7) (v := .int (iI (Wi))) (C := RX7) (T := TX7) (N := 10) hx hb hts UX7 hown hK hP 0 rfl rfl 1 (by decide) L18 (fun _ h9 => h9) rfl dX7_lay_36 ?_
                refine j_icmp_ge (tgt := 82) hx hb (by omega) dX7_lay_39 (by decide) (fun c_39 => ?_) (fun c_39 => ?_)
                · exact False.elim (by omega)
                · refine lv_aload_n hx hb dX7_lay_42 rfl (lv_at hl 0 rfl) ?_
                  have hcr := cell_rng (x := q) (y := r) hW hH ⟨by omega, by omega⟩ ⟨by omega, by omega⟩
                  have hg9 := layP_rng hkd hg hj3
                  have hkk : kd Wi Hi g9 (Wi * r + q) = g9 (Wi * r + q) := if_pos (by omega)
                  have hgr := hg9 (Wi * r + q) (by omega) (by omega)
                  refine lv_iload hx hb dX7_lay_43 (lv_at hl 7 rfl) ?_
                  refine lv_iload hx hb dX7_lay_45 (lv_at hl 6 rfl) ?_
                  refine j_rd (va_runV (As := [.int (iI (q)), .int (iI (r))]) (rest := []) ⟨hx, hb, hml, hown, hts⟩ (c_X7_numberOf l D cI cZ z h0 h1 q r Wi Hi bl sc sd no tu be sp g9  H.size) (cwV 2 hts gX7_lay_X7_numberOf rfl rfl rfl hvX7_numberOf ⟨Nat.le_of_ble_eq_true rfl, Nat.le_of_ble_eq_true rfl⟩) (j_preV hP hD hK hS hZ hA [0, 1] rfl rfl 0 rfl rfl) rfl rfl hl.1 rfl (lv_room (Nat.le_of_ble_eq_true rfl)) dX7_lay_47 ⟨Nat.zero_le _, Nat.zero_le _⟩) ?_
                  refine lv_istore (lv' := [(8, .int (iI (Wi * r + q))), (0, .ref h0), (1, .int (iI (kd9))), (2, .int (iI (x))), (3, .int (iI (y))), (4, .int (iI (a))), (5, .int (iI (b))), (6, .int (iI (r))), (7, .int (iI (q)))]) hx hb dX7_lay_50 hl (by decide) rfl (fun ls hl => ?_)
                  refine lv_iload_n hx hb dX7_lay_52 rfl (lv_at hl 2 rfl) ?_
                  refine lv_iconst (v := iI (1)) hx hb dX7_lay_53 rfl ?_
                  refine j_icmp_eq (tgt := 66) hx hb (by omega) dX7_lay_54 (by decide) (fun c_54 => ?_) (fun c_54 => ?_)
                  · refine lv_aload_n hx hb dX7_lay_66 rfl (lv_at hl 1 rfl) ?_
                    refine va_get (D := D) (ci := 7) (v := .ref h1) (C := RX7) (T := TX7) (N := 10) hx hb hts UX7 hown hK hP 0 rfl rfl 0 (by decide) L9 (fun _ h9 => h9) rfl dX7_lay_67 ?_
                    refine lv_iload hx hb dX7_lay_70 (lv_at hl 0 rfl) ?_
                    refine lv_iload_n hx hb dX7_lay_72 rfl (lv_at hl 2 rfl) ?_
                    refine j_muv (va_runSN (As := [.ref h1, .int (iI (Wi * r + q)), .int (iI (kd9))]) (rest := []) ⟨hx, hb, hml, hown, hts⟩ (c_X10_set l D cI cZ z h1 (Wi * r + q) kd9 g9 256 (by first | assumption | omega) (by first | assumption | omega) H.size) ⟨va_cnB 3 hts gX7_lay_X10_set_n58 rfl rfl rfl (hZ.2.2.2.2.2 _ (List.mem_of_getElem? (i := 10) rfl)) IRX10 hsX10_set ⟨Nat.le_of_ble_eq_true rfl, Nat.le_of_ble_eq_true rfl⟩, STyX10_set, trivial⟩ (j_preS hP hD hK hS hZ hA [1] rfl rfl) rfl rfl hl.1 rfl (lv_room (Nat.le_of_ble_eq_true rfl)) dX7_lay_73 ⟨Nat.zero_le _, Nat.zero_le _⟩) hP hD hS hA [1] rfl (fun _ => rfl) (fun g2_1 H locs hw_73 hP hD hS => ?_)
                    have hP : va_P D vwCl [(h0, .inr (7, [.ref h1, .int (iI (Wi)), .int (iI (Hi)), .int (iI (bl)), .int (iI (sc)), .int (iI (sd)), .int (iI (no)), .int (iI (tu)), .int (iI (be)), .int (iI (sp))])), (h1, .inl (cI, 256, .inl (aI g2_1)))] H := hP
                    have hD : va_D A [(h0, .inr (7, [.ref h1, .int (iI (Wi)), .int (iI (Hi)), .int (iI (bl)), .int (iI (sc)), .int (iI (sd)), .int (iI (no)), .int (iI (tu)), .int (iI (be)), .int (iI (sp))])), (h1, .inl (cI, 256, .inl (aI g2_1)))] := hD
                    refine lv_iinc (v := iI (q + 1)) (lv' := [(7, .int (iI (q + 1))), (8, .int (iI (Wi * r + q))), (0, .ref h0), (1, .int (iI (kd9))), (2, .int (iI (x))), (3, .int (iI (y))), (4, .int (iI (a))), (5, .int (iI (b))), (6, .int (iI (r)))]) hx hb dX7_lay_76 hl (k := 8) rfl (iI_add _ _) (by decide) rfl (fun ls hl => ?_)
                    refine lv_goto (tgt := 24) hx hb dX7_lay_79 (by decide) ?_
                    exact ih_24 ((q + 1)) g2_1 (by first | (rw [hw_73, setI_in (by omega)]; exact ⟨by omega, by omega, layP_set (by omega) ⟨by omega, by omega, by omega⟩ (by first | (left; omega) | (right; rw [← hkk]; omega)) hj3⟩) | exact ⟨by omega, by omega, layP_no (by omega) ⟨by omega, by omega, by omega⟩ (by omega) (by rw [← hkk]; omega) hj3⟩) (by omega) H locs hP hD hS ls (lv_sub hl [2, 3, 4, 5, 6, 7, 8, 0] rfl)
                  · refine lv_aload_n hx hb dX7_lay_57 rfl (lv_at hl 1 rfl) ?_
                    refine lv_iload hx hb dX7_lay_58 (lv_at hl 0 rfl) ?_
                    refine j_rd (va_runV (As := [.int (iI (Wi * r + q))]) (rest := []) ⟨hx, hb, hml, hown, hts⟩ (c_X7_kindOf l D cI cZ z h0 h1 (Wi * r + q) Wi Hi bl sc sd no tu be sp g9 (by first | assumption | omega) (by first | assumption | omega) (by first | assumption | omega) H.size) (cwV 1 hts gX7_lay_X7_kindOf rfl rfl rfl hvX7_kindOf ⟨Nat.le_of_ble_eq_true rfl, Nat.le_of_ble_eq_true rfl⟩) (j_preV hP hD hK hS hZ hA [0, 1] rfl rfl 0 rfl rfl) rfl rfl hl.1 rfl (lv_room (Nat.le_of_ble_eq_true rfl)) dX7_lay_60 ⟨Nat.zero_le _, Nat.zero_le _⟩) ?_
                    refine j_if_ne (tgt := 76) hx hb (by omega) dX7_lay_63 (by decide) (fun c_63 => ?_) (fun c_63 => ?_)
                    · refine lv_iinc (v := iI (q + 1)) (lv' := [(7, .int (iI (q + 1))), (8, .int (iI (Wi * r + q))), (0, .ref h0), (1, .int (iI (kd9))), (2, .int (iI (x))), (3, .int (iI (y))), (4, .int (iI (a))), (5, .int (iI (b))), (6, .int (iI (r)))]) hx hb dX7_lay_76 hl (k := 8) rfl (iI_add _ _) (by decide) rfl (fun ls hl => ?_)
                      refine lv_goto (tgt := 24) hx hb dX7_lay_79 (by decide) ?_
                      exact ih_24 ((q + 1)) g9 (by first | (rw [hw_73, setI_in (by omega)]; exact ⟨by omega, by omega, layP_set (by omega) ⟨by omega, by omega, by omega⟩ (by first | (left; omega) | (right; rw [← hkk]; omega)) hj3⟩) | exact ⟨by omega, by omega, layP_no (by omega) ⟨by omega, by omega, by omega⟩ (by omega) (by rw [← hkk]; omega) hj3⟩) (by omega) H locs hP hD hS ls (lv_sub hl [2, 3, 4, 5, 6, 7, 8, 0] rfl)
                    · refine lv_aload_n hx hb dX7_lay_66 rfl (lv_at hl 1 rfl) ?_
                      refine va_get (D := D) (ci := 7) (v := .ref h1) (C := RX7) (T := TX7) (N := 10) hx hb hts UX7 hown hK hP 0 rfl rfl 0 (by decide) L9 (fun _ h9 => h9) rfl dX7_lay_67 ?_
                      refine lv_iload hx hb dX7_lay_70 (lv_at hl 0 rfl) ?_
                      refine lv_iload_n hx hb dX7_lay_72 rfl (lv_at hl 2 rfl) ?_
                      refine j_muv (va_runSN (As := [.ref h1, .int (iI (Wi * r + q)), .int (iI (kd9))]) (rest := []) ⟨hx, hb, hml, hown, hts⟩ (c_X10_set l D cI cZ z h1 (Wi * r + q) kd9 g9 256 (by first | assumption | omega) (by first | assumption | omega) H.size) ⟨va_cnB 3 hts gX7_lay_X10_set_n58 rfl rfl rfl (hZ.2.2.2.2.2 _ (List.mem_of_getElem? (i := 10) rfl)) IRX10 hsX10_set ⟨Nat.le_of_ble_eq_true rfl, Nat.le_of_ble_eq_true rfl⟩, STyX10_set, trivial⟩ (j_preS hP hD hK hS hZ hA [1] rfl rfl) rfl rfl hl.1 rfl (lv_room (Nat.le_of_ble_eq_true rfl)) dX7_lay_73 ⟨Nat.zero_le _, Nat.zero_le _⟩) hP hD hS hA [1] rfl (fun _ => rfl) (fun g2_2 H locs hw_73 hP hD hS => ?_)
                      have hP : va_P D vwCl [(h0, .inr (7, [.ref h1, .int (iI (Wi)), .int (iI (Hi)), .int (iI (bl)), .int (iI (sc)), .int (iI (sd)), .int (iI (no)), .int (iI (tu)), .int (iI (be)), .int (iI (sp))])), (h1, .inl (cI, 256, .inl (aI g2_2)))] H := hP
                      have hD : va_D A [(h0, .inr (7, [.ref h1, .int (iI (Wi)), .int (iI (Hi)), .int (iI (bl)), .int (iI (sc)), .int (iI (sd)), .int (iI (no)), .int (iI (tu)), .int (iI (be)), .int (iI (sp))])), (h1, .inl (cI, 256, .inl (aI g2_2)))] := hD
                      refine lv_iinc (v := iI (q + 1)) (lv' := [(7, .int (iI (q + 1))), (8, .int (iI (Wi * r + q))), (0, .ref h0), (1, .int (iI (kd9))), (2, .int (iI (x))), (3, .int (iI (y))), (4, .int (iI (a))), (5, .int (iI (b))), (6, .int (iI (r)))]) hx hb dX7_lay_76 hl (k := 8) rfl (iI_add _ _) (by decide) rfl (fun ls hl => ?_)
                      refine lv_goto (tgt := 24) hx hb dX7_lay_79 (by decide) ?_
                      exact ih_24 ((q + 1)) g2_2 (by first | (rw [hw_73, setI_in (by omega)]; exact ⟨by omega, by omega, layP_set (by omega) ⟨by omega, by omega, by omega⟩ (by first | (left; omega) | (right; rw [← hkk]; omega)) hj3⟩) | exact ⟨by omega, by omega, layP_no (by omega) ⟨by omega, by omega, by omega⟩ (by omega) (by rw [← hkk]; omega) hj3⟩) (by omega) H locs hP hD hS ls (lv_sub hl [2, 3, 4, 5, 6, 7, 8, 0] rfl)
          exact loop_24 _ x g8 (by exact ⟨by omega, by omega, hi3⟩) (Nat.lt_succ_self _) H locs hP hD hS ls (lv_sub hl [1, 2, 3, 4, 5, 6, 7, 0] rfl)
  exact loop_3 _ y g (by exact ⟨by omega, by omega, layP_0⟩) (Nat.lt_succ_self _) s.heap [] hP hD hS ls (lv_sub hl [1, 2, 3, 4, 5, 6, 0] rfl)
theorem hsX7_lay : yX7_lay.cls ≠ "java/lang/invoke/MethodHandle" ∧ yX7_lay.cls ≠ "java/lang/invoke/VarHandle" ∧ (parseMethodDescriptor yX7_lay.desc).map (fun d => d.parameters.length) = some 5 := by decide +kernel
theorem hvX7_lay : yX7_lay.cls = RX7 ∧ yX7_lay.cls ≠ "java/lang/invoke/MethodHandle" ∧ yX7_lay.cls ≠ "java/lang/invoke/VarHandle" ∧ (parseMethodDescriptor yX7_lay.desc).map (fun d => d.parameters.length) = some 5 := ⟨rfl, hsX7_lay⟩
abbrev rmX5_tell : Room := { frames := 2, cells := 0, slots := 0, locals := 50 }
set_option maxHeartbeats 4000000 in
set_option maxRecDepth 100000 in
theorem c_X5_tell (l : Launch) (D : va_G) (cI cZ : ClassId) (z : jZT) (h0 h3 h1 h2 h4 : Nat) (w it mk Wi Hi bl sc sd no tu be sp : Int) (nu g : Int → Int) (hW : 3 ≤ Wi ∧ Wi ≤ 16) (hH : 3 ≤ Hi ∧ Hi ≤ 16) (hg : ∀ j : Int, 0 ≤ j → j < 256 → 0 ≤ g j ∧ g j ≤ 2) (hw : 0 ≤ w ∧ w < 6) (hrc : w = 1 ∨ w = 2 → (0 ≤ nu 0 ∧ 1 ≤ nu 2 ∧ nu 0 + nu 2 ≤ Wi) ∧ (0 ≤ nu 1 ∧ 1 ≤ nu 3 ∧ nu 1 + nu 3 ≤ Hi)) : jMu (S := Int × Int × (Int → Int) × Int × Int × Int × Int × Int × Int × Int) l yX5_tell wsX5_tell rmX5_tell [.ref h0, .ref h3, .int (iI (w))] D cI cZ z [(h0, .inr (5, [.ref h1, .ref h2, .int (iI (it)), .int (iI (mk))])), (h2, .inl (cI, 4, .inl (aI nu))), (h3, .inr (7, [.ref h4, .int (iI (Wi)), .int (iI (Hi)), .int (iI (bl)), .int (iI (sc)), .int (iI (sd)), .int (iI (no)), .int (iI (tu)), .int (iI (be)), .int (iI (sp))])), (h4, .inl (cI, 256, .inl (aI g)))] (fun u => none) (fun u => (u.1, u.2.1, u.2.2.1, u.2.2.2.1, u.2.2.2.2.1, u.2.2.2.2.2.1, u.2.2.2.2.2.2.1, u.2.2.2.2.2.2.2.1, u.2.2.2.2.2.2.2.2.1, u.2.2.2.2.2.2.2.2.2) = telF (Wi, Hi, g, bl, sc, sd, no, tu, be, sp) nu w) (fun u => [(h0, .inr (5, [.ref h1, .ref h2, .int (iI (it)), .int (iI (mk))])), (h2, .inl (cI, 4, .inl (aI nu))), (h3, .inr (7, [.ref h4, .int (iI (u.1)), .int (iI (u.2.1)), .int (iI (u.2.2.2.1)), .int (iI (u.2.2.2.2.1)), .int (iI (u.2.2.2.2.2.1)), .int (iI (u.2.2.2.2.2.2.1)), .int (iI (u.2.2.2.2.2.2.2.1)), .int (iI (u.2.2.2.2.2.2.2.2.1)), .int (iI (u.2.2.2.2.2.2.2.2.2))])), (h4, .inl (cI, 256, .inl (aI u.2.2.1)))]) := by
  refine jMu_of (cc := cX5_tell) (n := 7) (ret := none) (by decide) rfl (Nat.le_of_ble_eq_true rfl) ?_
  intro p e s m below meth c A ls args Q hQ F hA hZ hP hK hD hS hl
  obtain ⟨hx, hb, hr, hml, hown, hts, hlocks⟩ := F
  have hown : s.vm.findClass RX5 = some m.cls := hown
  have hl : lv_has ls 7 [(0, .ref h0), (1, .ref h3), (2, .int (iI (w)))] := hl
  have L9 := hts (.fieldLink RX5 9 "TinMouse$Reader" "numbers" "[I") (by decide +kernel)
  have IRX10 := hts (.initialized RX10) (by decide +kernel)
  have STyX10_at := hts (.static yX10_at) (by decide +kernel)
  have L111 := hts (.fieldLink RX5 111 "TinMouse$Table" "startCell" "I") (by decide +kernel)
  have L114 := hts (.fieldLink RX5 114 "TinMouse$Table" "startDirection" "I") (by decide +kernel)
  have L78 := hts (.fieldLink RX5 78 "TinMouse$Table" "wide" "I") (by decide +kernel)
  have L81 := hts (.fieldLink RX5 81 "TinMouse$Table" "high" "I") (by decide +kernel)
  have L96 := hts (.fieldLink RX5 96 "TinMouse$Table" "bell" "I") (by decide +kernel)
  have L99 := hts (.fieldLink RX5 99 "TinMouse$Table" "nose" "I") (by decide +kernel)
  have L102 := hts (.fieldLink RX5 102 "TinMouse$Table" "turn" "I") (by decide +kernel)
  have L105 := hts (.fieldLink RX5 105 "TinMouse$Table" "bend" "I") (by decide +kernel)
  have L108 := hts (.fieldLink RX5 108 "TinMouse$Table" "spring" "I") (by decide +kernel)
  have UX5 : ∀ w ∈ wsX50, w ∈ wsX5_tell := fun w h => List.mem_cons_of_mem _ (List.mem_append_left _ (List.mem_append_right _ h))
  have UX7 : ∀ w ∈ wsX70, w ∈ wsX5_tell := fun w h => List.mem_cons_of_mem _ (List.mem_append_right _ h)
  refine lv_aload_n hx hb dX5_tell_0 rfl (lv_at hl 0 rfl) ?_
  refine va_get (D := D) (ci := 5) (v := .ref h2) (C := RX5) (T := TX5) (N := 4) hx hb hts UX5 hown hK hP 0 rfl rfl 1 (by decide) L9 (fun _ h9 => h9) rfl dX5_tell_1 ?_
  refine lv_iconst (v := iI (0)) hx hb dX5_tell_4 rfl ?_
  refine j_rd (va_runSN (As := [.ref h2, .int (iI (0))]) (rest := []) ⟨hx, hb, hml, hown, hts⟩ (c_X10_at l D cI cZ z h2 0 nu 4 (by first | assumption | omega) (by first | assumption | omega) s.heap.size) ⟨va_cnB 2 hts gX5_tell_X10_at_n84 rfl rfl rfl (hZ.2.2.2.2.2 _ (List.mem_of_getElem? (i := 8) rfl)) IRX10 hsX10_at ⟨Nat.le_of_ble_eq_true rfl, Nat.le_of_ble_eq_true rfl⟩, STyX10_at, trivial⟩ (j_preS hP hD hK hS hZ hA [1] rfl rfl) rfl rfl hl.1 rfl (lv_room (Nat.le_of_ble_eq_true rfl)) dX5_tell_5 ⟨Nat.zero_le _, Nat.zero_le _⟩) ?_
  refine j_top (fun na ena => ?_)
  rw [atI_in (by omega)] at ena
  refine lv_istore_n (lv' := [(3, .int (iI (na))), (0, .ref h0), (1, .ref h3), (2, .int (iI (w)))]) hx hb dX5_tell_8 rfl hl (by decide) rfl (fun ls hl => ?_)
  refine lv_aload_n hx hb dX5_tell_9 rfl (lv_at hl 1 rfl) ?_
  refine va_get (D := D) (ci := 5) (v := .ref h2) (C := RX5) (T := TX5) (N := 4) hx hb hts UX5 hown hK hP 0 rfl rfl 1 (by decide) L9 (fun _ h9 => h9) rfl dX5_tell_10 ?_
  refine lv_iconst (v := iI (1)) hx hb dX5_tell_13 rfl ?_
  refine j_rd (va_runSN (As := [.ref h2, .int (iI (1))]) (rest := []) ⟨hx, hb, hml, hown, hts⟩ (c_X10_at l D cI cZ z h2 1 nu 4 (by first | assumption | omega) (by first | assumption | omega) s.heap.size) ⟨va_cnB 2 hts gX5_tell_X10_at_n84 rfl rfl rfl (hZ.2.2.2.2.2 _ (List.mem_of_getElem? (i := 8) rfl)) IRX10 hsX10_at ⟨Nat.le_of_ble_eq_true rfl, Nat.le_of_ble_eq_true rfl⟩, STyX10_at, trivial⟩ (j_preS hP hD hK hS hZ hA [1] rfl rfl) rfl rfl hl.1 rfl (lv_room (Nat.le_of_ble_eq_true rfl)) dX5_tell_14 ⟨Nat.zero_le _, Nat.zero_le _⟩) ?_
  refine j_top (fun nb enb => ?_)
  rw [atI_in (by omega)] at enb
  refine lv_istore (lv' := [(4, .int (iI (nb))), (3, .int (iI (na))), (0, .ref h0), (1, .ref h3), (2, .int (iI (w)))]) hx hb dX5_tell_17 hl (by decide) rfl (fun ls hl => ?_)
  refine lv_aload_n hx hb dX5_tell_19 rfl (lv_at hl 2 rfl) ?_
  refine va_get (D := D) (ci := 5) (v := .ref h2) (C := RX5) (T := TX5) (N := 4) hx hb hts UX5 hown hK hP 0 rfl rfl 1 (by decide) L9 (fun _ h9 => h9) rfl dX5_tell_20 ?_
  refine lv_iconst (v := iI (2)) hx hb dX5_tell_23 rfl ?_
  refine j_rd (va_runSN (As := [.ref h2, .int (iI (2))]) (rest := []) ⟨hx, hb, hml, hown, hts⟩ (c_X10_at l D cI cZ z h2 2 nu 4 (by first | assumption | omega) (by first | assumption | omega) s.heap.size) ⟨va_cnB 2 hts gX5_tell_X10_at_n84 rfl rfl rfl (hZ.2.2.2.2.2 _ (List.mem_of_getElem? (i := 8) rfl)) IRX10 hsX10_at ⟨Nat.le_of_ble_eq_true rfl, Nat.le_of_ble_eq_true rfl⟩, STyX10_at, trivial⟩ (j_preS hP hD hK hS hZ hA [1] rfl rfl) rfl rfl hl.1 rfl (lv_room (Nat.le_of_ble_eq_true rfl)) dX5_tell_24 ⟨Nat.zero_le _, Nat.zero_le _⟩) ?_
  refine j_top (fun nc enc => ?_)
  rw [atI_in (by omega)] at enc
  refine lv_istore (lv' := [(5, .int (iI (nc))), (4, .int (iI (nb))), (3, .int (iI (na))), (0, .ref h0), (1, .ref h3), (2, .int (iI (w)))]) hx hb dX5_tell_27 hl (by decide) rfl (fun ls hl => ?_)
  refine lv_aload_n hx hb dX5_tell_29 rfl (lv_at hl 3 rfl) ?_
  refine va_get (D := D) (ci := 5) (v := .ref h2) (C := RX5) (T := TX5) (N := 4) hx hb hts UX5 hown hK hP 0 rfl rfl 1 (by decide) L9 (fun _ h9 => h9) rfl dX5_tell_30 ?_
  refine lv_iconst (v := iI (3)) hx hb dX5_tell_33 rfl ?_
  refine j_rd (va_runSN (As := [.ref h2, .int (iI (3))]) (rest := []) ⟨hx, hb, hml, hown, hts⟩ (c_X10_at l D cI cZ z h2 3 nu 4 (by first | assumption | omega) (by first | assumption | omega) s.heap.size) ⟨va_cnB 2 hts gX5_tell_X10_at_n84 rfl rfl rfl (hZ.2.2.2.2.2 _ (List.mem_of_getElem? (i := 8) rfl)) IRX10 hsX10_at ⟨Nat.le_of_ble_eq_true rfl, Nat.le_of_ble_eq_true rfl⟩, STyX10_at, trivial⟩ (j_preS hP hD hK hS hZ hA [1] rfl rfl) rfl rfl hl.1 rfl (lv_room (Nat.le_of_ble_eq_true rfl)) dX5_tell_34 ⟨Nat.zero_le _, Nat.zero_le _⟩) ?_
  refine j_top (fun d9 ed9 => ?_)
  rw [atI_in (by omega)] at ed9
  refine lv_istore (lv' := [(6, .int (iI (d9))), (5, .int (iI (nc))), (4, .int (iI (nb))), (3, .int (iI (na))), (0, .ref h0), (1, .ref h3), (2, .int (iI (w)))]) hx hb dX5_tell_37 hl (by decide) rfl (fun ls hl => ?_)
  refine lv_iload_n hx hb dX5_tell_39 rfl (lv_at hl 6 rfl) ?_
  rcases (show (w < 0 ∨ 4 < w) ∨ w = 0 ∨ w = 1 ∨ w = 2 ∨ w = 3 ∨ w = 4 by omega) with h_40 | h_40 | h_40 | h_40 | h_40 | h_40
  · refine lv_tableOut (tgt := 160) hx hb dX5_tell_40 (by rw [iI_toInt (by omega)]; exact h_40) (by decide) ?_
    refine lv_aload_n hx hb dX5_tell_160 rfl (lv_at hl 5 rfl) ?_
    refine lv_aload_n hx hb dX5_tell_161 rfl (lv_at hl 5 rfl) ?_
    refine lv_iload_n hx hb dX5_tell_162 rfl (lv_at hl 3 rfl) ?_
    refine lv_iload hx hb dX5_tell_163 (lv_at hl 2 rfl) ?_
    refine j_rd (va_runV (As := [.int (iI (na)), .int (iI (nb))]) (rest := [.ref h3]) ⟨hx, hb, hml, hown, hts⟩ (c_X7_numberOf l D cI cZ z h3 h4 na nb Wi Hi bl sc sd no tu be sp g  s.heap.size) (cwV 2 hts gX5_tell_X7_numberOf rfl rfl rfl hvX7_numberOf ⟨Nat.le_of_ble_eq_true rfl, Nat.le_of_ble_eq_true rfl⟩) (j_preV hP hD hK hS hZ hA [2, 3] rfl rfl 2 rfl rfl) rfl rfl hl.1 rfl (lv_room (Nat.le_of_ble_eq_true rfl)) dX5_tell_165 ⟨Nat.zero_le _, Nat.zero_le _⟩) ?_
    refine va_put (D := D) (ci := 7) (v := .int (iI (Wi * nb + na))) (ty := .int) (C := RX7) (T := TX7) (N := 10) hx hb hts UX7 tyX7 tyX7_ok nmX7 hown hK hP hD hS 2 rfl rfl 4 (by decide) L111 (fun _ h9 => h9) rfl rfl rfl rfl (Nat.le_of_ble_eq_true rfl) dX5_tell_168 (fun H locs hP hD hS => ?_)
    have hP : va_P D vwCl [(h0, .inr (5, [.ref h1, .ref h2, .int (iI (it)), .int (iI (mk))])), (h2, .inl (cI, 4, .inl (aI nu))), (h3, .inr (7, [.ref h4, .int (iI (Wi)), .int (iI (Hi)), .int (iI (bl)), .int (iI (Wi * nb + na)), .int (iI (sd)), .int (iI (no)), .int (iI (tu)), .int (iI (be)), .int (iI (sp))])), (h4, .inl (cI, 256, .inl (aI g)))] H := hP
    have hD : va_D A [(h0, .inr (5, [.ref h1, .ref h2, .int (iI (it)), .int (iI (mk))])), (h2, .inl (cI, 4, .inl (aI nu))), (h3, .inr (7, [.ref h4, .int (iI (Wi)), .int (iI (Hi)), .int (iI (bl)), .int (iI (Wi * nb + na)), .int (iI (sd)), .int (iI (no)), .int (iI (tu)), .int (iI (be)), .int (iI (sp))])), (h4, .inl (cI, 256, .inl (aI g)))] := hD
    refine lv_aload_n hx hb dX5_tell_171 rfl (lv_at hl 5 rfl) ?_
    refine lv_iload hx hb dX5_tell_172 (lv_at hl 1 rfl) ?_
    refine va_put (D := D) (ci := 7) (v := .int (iI (nc))) (ty := .int) (C := RX7) (T := TX7) (N := 10) hx hb hts UX7 tyX7 tyX7_ok nmX7 hown hK hP hD hS 2 rfl rfl 5 (by decide) L114 (fun _ h9 => h9) rfl rfl rfl rfl (Nat.le_of_ble_eq_true rfl) dX5_tell_174 (fun H locs hP hD hS => ?_)
    have hP : va_P D vwCl [(h0, .inr (5, [.ref h1, .ref h2, .int (iI (it)), .int (iI (mk))])), (h2, .inl (cI, 4, .inl (aI nu))), (h3, .inr (7, [.ref h4, .int (iI (Wi)), .int (iI (Hi)), .int (iI (bl)), .int (iI (Wi * nb + na)), .int (iI (nc)), .int (iI (no)), .int (iI (tu)), .int (iI (be)), .int (iI (sp))])), (h4, .inl (cI, 256, .inl (aI g)))] H := hP
    have hD : va_D A [(h0, .inr (5, [.ref h1, .ref h2, .int (iI (it)), .int (iI (mk))])), (h2, .inl (cI, 4, .inl (aI nu))), (h3, .inr (7, [.ref h4, .int (iI (Wi)), .int (iI (Hi)), .int (iI (bl)), .int (iI (Wi * nb + na)), .int (iI (nc)), .int (iI (no)), .int (iI (tu)), .int (iI (be)), .int (iI (sp))])), (h4, .inl (cI, 256, .inl (aI g)))] := hD
    rw [hQ]; exact jm_vret (Wi, Hi, g, bl, Wi * nb + na, nc, no, tu, be, sp) hx hb hr hlocks hS hP rfl (by (try dsimp only); (try rw [ena]); (try rw [enb]); (try rw [enc]); (try rw [ed9]); simp only [telF]; first | (rw [if_pos (by omega)]; done) | (rw [if_neg (by omega), if_pos (by omega)]; first | (rw [hw_99, h_40, ena, enb, enc, ed9]; done) | (rw [hw_114, h_40, ena, enb, enc, ed9]; done)) | (rw [if_neg (by omega), if_neg (by omega), if_pos (by omega)]; done) | (rw [if_neg (by omega), if_neg (by omega), if_neg (by omega), if_pos (by omega)]; done) | (rw [if_neg (by omega), if_neg (by omega), if_neg (by omega), if_neg (by omega)]; done)) dX5_tell_177
  · have h9 : (iI (w)).toInt = 0 := by rw [h_40]; decide
    refine lv_tableIn (tgt := 76) hx hb dX5_tell_40 (by rw [h9]; decide) (by rw [h9]; decide) (by rw [h9]; rfl) (by decide) ?_
    refine lv_aload_n hx hb dX5_tell_76 rfl (lv_at hl 5 rfl) ?_
    refine lv_iload_n hx hb dX5_tell_77 rfl (lv_at hl 3 rfl) ?_
    refine va_put (D := D) (ci := 7) (v := .int (iI (na))) (ty := .int) (C := RX7) (T := TX7) (N := 10) hx hb hts UX7 tyX7 tyX7_ok nmX7 hown hK hP hD hS 2 rfl rfl 1 (by decide) L78 (fun _ h9 => h9) rfl rfl rfl rfl (Nat.le_of_ble_eq_true rfl) dX5_tell_78 (fun H locs hP hD hS => ?_)
    have hP : va_P D vwCl [(h0, .inr (5, [.ref h1, .ref h2, .int (iI (it)), .int (iI (mk))])), (h2, .inl (cI, 4, .inl (aI nu))), (h3, .inr (7, [.ref h4, .int (iI (na)), .int (iI (Hi)), .int (iI (bl)), .int (iI (sc)), .int (iI (sd)), .int (iI (no)), .int (iI (tu)), .int (iI (be)), .int (iI (sp))])), (h4, .inl (cI, 256, .inl (aI g)))] H := hP
    have hD : va_D A [(h0, .inr (5, [.ref h1, .ref h2, .int (iI (it)), .int (iI (mk))])), (h2, .inl (cI, 4, .inl (aI nu))), (h3, .inr (7, [.ref h4, .int (iI (na)), .int (iI (Hi)), .int (iI (bl)), .int (iI (sc)), .int (iI (sd)), .int (iI (no)), .int (iI (tu)), .int (iI (be)), .int (iI (sp))])), (h4, .inl (cI, 256, .inl (aI g)))] := hD
    refine lv_aload_n hx hb dX5_tell_81 rfl (lv_at hl 5 rfl) ?_
    refine lv_iload hx hb dX5_tell_82 (lv_at hl 2 rfl) ?_
    refine va_put (D := D) (ci := 7) (v := .int (iI (nb))) (ty := .int) (C := RX7) (T := TX7) (N := 10) hx hb hts UX7 tyX7 tyX7_ok nmX7 hown hK hP hD hS 2 rfl rfl 2 (by decide) L81 (fun _ h9 => h9) rfl rfl rfl rfl (Nat.le_of_ble_eq_true rfl) dX5_tell_84 (fun H locs hP hD hS => ?_)
    have hP : va_P D vwCl [(h0, .inr (5, [.ref h1, .ref h2, .int (iI (it)), .int (iI (mk))])), (h2, .inl (cI, 4, .inl (aI nu))), (h3, .inr (7, [.ref h4, .int (iI (na)), .int (iI (nb)), .int (iI (bl)), .int (iI (sc)), .int (iI (sd)), .int (iI (no)), .int (iI (tu)), .int (iI (be)), .int (iI (sp))])), (h4, .inl (cI, 256, .inl (aI g)))] H := hP
    have hD : va_D A [(h0, .inr (5, [.ref h1, .ref h2, .int (iI (it)), .int (iI (mk))])), (h2, .inl (cI, 4, .inl (aI nu))), (h3, .inr (7, [.ref h4, .int (iI (na)), .int (iI (nb)), .int (iI (bl)), .int (iI (sc)), .int (iI (sd)), .int (iI (no)), .int (iI (tu)), .int (iI (be)), .int (iI (sp))])), (h4, .inl (cI, 256, .inl (aI g)))] := hD
    refine lv_goto (tgt := 177) hx hb dX5_tell_87 (by decide) ?_
    rw [hQ]; exact jm_vret (na, nb, g, bl, sc, sd, no, tu, be, sp) hx hb hr hlocks hS hP rfl (by (try dsimp only); (try rw [ena]); (try rw [enb]); (try rw [enc]); (try rw [ed9]); simp only [telF]; first | (rw [if_pos (by omega)]; done) | (rw [if_neg (by omega), if_pos (by omega)]; first | (rw [hw_99, h_40, ena, enb, enc, ed9]; done) | (rw [hw_114, h_40, ena, enb, enc, ed9]; done)) | (rw [if_neg (by omega), if_neg (by omega), if_pos (by omega)]; done) | (rw [if_neg (by omega), if_neg (by omega), if_neg (by omega), if_pos (by omega)]; done) | (rw [if_neg (by omega), if_neg (by omega), if_neg (by omega), if_neg (by omega)]; done)) dX5_tell_177
  · have h9 : (iI (w)).toInt = 1 := by rw [h_40]; decide
    refine lv_tableIn (tgt := 90) hx hb dX5_tell_40 (by rw [h9]; decide) (by rw [h9]; decide) (by rw [h9]; rfl) (by decide) ?_
    refine lv_aload_n hx hb dX5_tell_90 rfl (lv_at hl 5 rfl) ?_
    refine lv_iconst (v := iI (1)) hx hb dX5_tell_91 rfl ?_
    refine lv_iload_n hx hb dX5_tell_92 rfl (lv_at hl 3 rfl) ?_
    refine lv_iload hx hb dX5_tell_93 (lv_at hl 2 rfl) ?_
    refine lv_iload hx hb dX5_tell_95 (lv_at hl 1 rfl) ?_
    refine lv_iload hx hb dX5_tell_97 (lv_at hl 0 rfl) ?_
    refine j_muv (va_runV (As := [.int (iI (1)), .int (iI (na)), .int (iI (nb)), .int (iI (nc)), .int (iI (d9))]) (rest := []) ⟨hx, hb, hml, hown, hts⟩ (c_X7_lay l D cI cZ z h3 h4 1 na nb nc d9 Wi Hi bl sc sd no tu be sp g (by first | assumption | omega) (by first | assumption | omega) (by first | assumption | omega) (by first | assumption | omega) (by first | assumption | omega) (by first | assumption | omega) s.heap.size) (cwV 5 hts gX5_tell_X7_lay rfl rfl rfl hvX7_lay ⟨Nat.le_of_ble_eq_true rfl, Nat.le_of_ble_eq_true rfl⟩) (j_preV hP hD hK hS hZ hA [2, 3] rfl rfl 2 rfl rfl) rfl rfl hl.1 rfl (lv_room (Nat.le_of_ble_eq_true rfl)) dX5_tell_99 ⟨Nat.zero_le _, Nat.zero_le _⟩) hP hD hS hA [2, 3] rfl (fun _ => rfl) (fun g2_1 H locs hw_99 hP hD hS => ?_)
    have hP : va_P D vwCl [(h0, .inr (5, [.ref h1, .ref h2, .int (iI (it)), .int (iI (mk))])), (h2, .inl (cI, 4, .inl (aI nu))), (h3, .inr (7, [.ref h4, .int (iI (Wi)), .int (iI (Hi)), .int (iI (bl)), .int (iI (sc)), .int (iI (sd)), .int (iI (no)), .int (iI (tu)), .int (iI (be)), .int (iI (sp))])), (h4, .inl (cI, 256, .inl (aI g2_1)))] H := hP
    have hD : va_D A [(h0, .inr (5, [.ref h1, .ref h2, .int (iI (it)), .int (iI (mk))])), (h2, .inl (cI, 4, .inl (aI nu))), (h3, .inr (7, [.ref h4, .int (iI (Wi)), .int (iI (Hi)), .int (iI (bl)), .int (iI (sc)), .int (iI (sd)), .int (iI (no)), .int (iI (tu)), .int (iI (be)), .int (iI (sp))])), (h4, .inl (cI, 256, .inl (aI g2_1)))] := hD
    refine lv_goto (tgt := 177) hx hb dX5_tell_102 (by decide) ?_
    rw [hQ]; exact jm_vret (Wi, Hi, g2_1, bl, sc, sd, no, tu, be, sp) hx hb hr hlocks hS hP rfl (by (try dsimp only); (try rw [ena]); (try rw [enb]); (try rw [enc]); (try rw [ed9]); simp only [telF]; first | (rw [if_pos (by omega)]; done) | (rw [if_neg (by omega), if_pos (by omega)]; first | (rw [hw_99, h_40, ena, enb, enc, ed9]; done) | (rw [hw_114, h_40, ena, enb, enc, ed9]; done)) | (rw [if_neg (by omega), if_neg (by omega), if_pos (by omega)]; done) | (rw [if_neg (by omega), if_neg (by omega), if_neg (by omega), if_pos (by omega)]; done) | (rw [if_neg (by omega), if_neg (by omega), if_neg (by omega), if_neg (by omega)]; done)) dX5_tell_177
  · have h9 : (iI (w)).toInt = 2 := by rw [h_40]; decide
    refine lv_tableIn (tgt := 105) hx hb dX5_tell_40 (by rw [h9]; decide) (by rw [h9]; decide) (by rw [h9]; rfl) (by decide) ?_
    refine lv_aload_n hx hb dX5_tell_105 rfl (lv_at hl 5 rfl) ?_
    refine lv_iconst (v := iI (2)) hx hb dX5_tell_106 rfl ?_
    refine lv_iload_n hx hb dX5_tell_107 rfl (lv_at hl 3 rfl) ?_
    refine lv_iload hx hb dX5_tell_108 (lv_at hl 2 rfl) ?_
    refine lv_iload hx hb dX5_tell_110 (lv_at hl 1 rfl) ?_
    refine lv_iload hx hb dX5_tell_112 (lv_at hl 0 rfl) ?_
    refine j_muv (va_runV (As := [.int (iI (2)), .int (iI (na)), .int (iI (nb)), .int (iI (nc)), .int (iI (d9))]) (rest := []) ⟨hx, hb, hml, hown, hts⟩ (c_X7_lay l D cI cZ z h3 h4 2 na nb nc d9 Wi Hi bl sc sd no tu be sp g (by first | assumption | omega) (by first | assumption | omega) (by first | assumption | omega) (by first | assumption | omega) (by first | assumption | omega) (by first | assumption | omega) s.heap.size) (cwV 5 hts gX5_tell_X7_lay rfl rfl rfl hvX7_lay ⟨Nat.le_of_ble_eq_true rfl, Nat.le_of_ble_eq_true rfl⟩) (j_preV hP hD hK hS hZ hA [2, 3] rfl rfl 2 rfl rfl) rfl rfl hl.1 rfl (lv_room (Nat.le_of_ble_eq_true rfl)) dX5_tell_114 ⟨Nat.zero_le _, Nat.zero_le _⟩) hP hD hS hA [2, 3] rfl (fun _ => rfl) (fun g2_2 H locs hw_114 hP hD hS => ?_)
    have hP : va_P D vwCl [(h0, .inr (5, [.ref h1, .ref h2, .int (iI (it)), .int (iI (mk))])), (h2, .inl (cI, 4, .inl (aI nu))), (h3, .inr (7, [.ref h4, .int (iI (Wi)), .int (iI (Hi)), .int (iI (bl)), .int (iI (sc)), .int (iI (sd)), .int (iI (no)), .int (iI (tu)), .int (iI (be)), .int (iI (sp))])), (h4, .inl (cI, 256, .inl (aI g2_2)))] H := hP
    have hD : va_D A [(h0, .inr (5, [.ref h1, .ref h2, .int (iI (it)), .int (iI (mk))])), (h2, .inl (cI, 4, .inl (aI nu))), (h3, .inr (7, [.ref h4, .int (iI (Wi)), .int (iI (Hi)), .int (iI (bl)), .int (iI (sc)), .int (iI (sd)), .int (iI (no)), .int (iI (tu)), .int (iI (be)), .int (iI (sp))])), (h4, .inl (cI, 256, .inl (aI g2_2)))] := hD
    refine lv_goto (tgt := 177) hx hb dX5_tell_117 (by decide) ?_
    rw [hQ]; exact jm_vret (Wi, Hi, g2_2, bl, sc, sd, no, tu, be, sp) hx hb hr hlocks hS hP rfl (by (try dsimp only); (try rw [ena]); (try rw [enb]); (try rw [enc]); (try rw [ed9]); simp only [telF]; first | (rw [if_pos (by omega)]; done) | (rw [if_neg (by omega), if_pos (by omega)]; first | (rw [hw_99, h_40, ena, enb, enc, ed9]; done) | (rw [hw_114, h_40, ena, enb, enc, ed9]; done)) | (rw [if_neg (by omega), if_neg (by omega), if_pos (by omega)]; done) | (rw [if_neg (by omega), if_neg (by omega), if_neg (by omega), if_pos (by omega)]; done) | (rw [if_neg (by omega), if_neg (by omega), if_neg (by omega), if_neg (by omega)]; done)) dX5_tell_177
  · have h9 : (iI (w)).toInt = 3 := by rw [h_40]; decide
    refine lv_tableIn (tgt := 120) hx hb dX5_tell_40 (by rw [h9]; decide) (by rw [h9]; decide) (by rw [h9]; rfl) (by decide) ?_
    refine lv_aload_n hx hb dX5_tell_120 rfl (lv_at hl 5 rfl) ?_
    refine lv_aload_n hx hb dX5_tell_121 rfl (lv_at hl 5 rfl) ?_
    refine lv_iload_n hx hb dX5_tell_122 rfl (lv_at hl 3 rfl) ?_
    refine lv_iload hx hb dX5_tell_123 (lv_at hl 2 rfl) ?_
    refine j_rd (va_runV (As := [.int (iI (na)), .int (iI (nb))]) (rest := [.ref h3]) ⟨hx, hb, hml, hown, hts⟩ (c_X7_numberOf l D cI cZ z h3 h4 na nb Wi Hi bl sc sd no tu be sp g  s.heap.size) (cwV 2 hts gX5_tell_X7_numberOf rfl rfl rfl hvX7_numberOf ⟨Nat.le_of_ble_eq_true rfl, Nat.le_of_ble_eq_true rfl⟩) (j_preV hP hD hK hS hZ hA [2, 3] rfl rfl 2 rfl rfl) rfl rfl hl.1 rfl (lv_room (Nat.le_of_ble_eq_true rfl)) dX5_tell_125 ⟨Nat.zero_le _, Nat.zero_le _⟩) ?_
    refine va_put (D := D) (ci := 7) (v := .int (iI (Wi * nb + na))) (ty := .int) (C := RX7) (T := TX7) (N := 10) hx hb hts UX7 tyX7 tyX7_ok nmX7 hown hK hP hD hS 2 rfl rfl 3 (by decide) L96 (fun _ h9 => h9) rfl rfl rfl rfl (Nat.le_of_ble_eq_true rfl) dX5_tell_128 (fun H locs hP hD hS => ?_)
    have hP : va_P D vwCl [(h0, .inr (5, [.ref h1, .ref h2, .int (iI (it)), .int (iI (mk))])), (h2, .inl (cI, 4, .inl (aI nu))), (h3, .inr (7, [.ref h4, .int (iI (Wi)), .int (iI (Hi)), .int (iI (Wi * nb + na)), .int (iI (sc)), .int (iI (sd)), .int (iI (no)), .int (iI (tu)), .int (iI (be)), .int (iI (sp))])), (h4, .inl (cI, 256, .inl (aI g)))] H := hP
    have hD : va_D A [(h0, .inr (5, [.ref h1, .ref h2, .int (iI (it)), .int (iI (mk))])), (h2, .inl (cI, 4, .inl (aI nu))), (h3, .inr (7, [.ref h4, .int (iI (Wi)), .int (iI (Hi)), .int (iI (Wi * nb + na)), .int (iI (sc)), .int (iI (sd)), .int (iI (no)), .int (iI (tu)), .int (iI (be)), .int (iI (sp))])), (h4, .inl (cI, 256, .inl (aI g)))] := hD
    refine lv_goto (tgt := 177) hx hb dX5_tell_131 (by decide) ?_
    rw [hQ]; exact jm_vret (Wi, Hi, g, Wi * nb + na, sc, sd, no, tu, be, sp) hx hb hr hlocks hS hP rfl (by (try dsimp only); (try rw [ena]); (try rw [enb]); (try rw [enc]); (try rw [ed9]); simp only [telF]; first | (rw [if_pos (by omega)]; done) | (rw [if_neg (by omega), if_pos (by omega)]; first | (rw [hw_99, h_40, ena, enb, enc, ed9]; done) | (rw [hw_114, h_40, ena, enb, enc, ed9]; done)) | (rw [if_neg (by omega), if_neg (by omega), if_pos (by omega)]; done) | (rw [if_neg (by omega), if_neg (by omega), if_neg (by omega), if_pos (by omega)]; done) | (rw [if_neg (by omega), if_neg (by omega), if_neg (by omega), if_neg (by omega)]; done)) dX5_tell_177
  · have h9 : (iI (w)).toInt = 4 := by rw [h_40]; decide
    refine lv_tableIn (tgt := 134) hx hb dX5_tell_40 (by rw [h9]; decide) (by rw [h9]; decide) (by rw [h9]; rfl) (by decide) ?_
    refine lv_aload_n hx hb dX5_tell_134 rfl (lv_at hl 5 rfl) ?_
    refine lv_iload_n hx hb dX5_tell_135 rfl (lv_at hl 3 rfl) ?_
    refine va_put (D := D) (ci := 7) (v := .int (iI (na))) (ty := .int) (C := RX7) (T := TX7) (N := 10) hx hb hts UX7 tyX7 tyX7_ok nmX7 hown hK hP hD hS 2 rfl rfl 6 (by decide) L99 (fun _ h9 => h9) rfl rfl rfl rfl (Nat.le_of_ble_eq_true rfl) dX5_tell_136 (fun H locs hP hD hS => ?_)
    have hP : va_P D vwCl [(h0, .inr (5, [.ref h1, .ref h2, .int (iI (it)), .int (iI (mk))])), (h2, .inl (cI, 4, .inl (aI nu))), (h3, .inr (7, [.ref h4, .int (iI (Wi)), .int (iI (Hi)), .int (iI (bl)), .int (iI (sc)), .int (iI (sd)), .int (iI (na)), .int (iI (tu)), .int (iI (be)), .int (iI (sp))])), (h4, .inl (cI, 256, .inl (aI g)))] H := hP
    have hD : va_D A [(h0, .inr (5, [.ref h1, .ref h2, .int (iI (it)), .int (iI (mk))])), (h2, .inl (cI, 4, .inl (aI nu))), (h3, .inr (7, [.ref h4, .int (iI (Wi)), .int (iI (Hi)), .int (iI (bl)), .int (iI (sc)), .int (iI (sd)), .int (iI (na)), .int (iI (tu)), .int (iI (be)), .int (iI (sp))])), (h4, .inl (cI, 256, .inl (aI g)))] := hD
    refine lv_aload_n hx hb dX5_tell_139 rfl (lv_at hl 5 rfl) ?_
    refine lv_iload hx hb dX5_tell_140 (lv_at hl 2 rfl) ?_
    refine va_put (D := D) (ci := 7) (v := .int (iI (nb))) (ty := .int) (C := RX7) (T := TX7) (N := 10) hx hb hts UX7 tyX7 tyX7_ok nmX7 hown hK hP hD hS 2 rfl rfl 7 (by decide) L102 (fun _ h9 => h9) rfl rfl rfl rfl (Nat.le_of_ble_eq_true rfl) dX5_tell_142 (fun H locs hP hD hS => ?_)
    have hP : va_P D vwCl [(h0, .inr (5, [.ref h1, .ref h2, .int (iI (it)), .int (iI (mk))])), (h2, .inl (cI, 4, .inl (aI nu))), (h3, .inr (7, [.ref h4, .int (iI (Wi)), .int (iI (Hi)), .int (iI (bl)), .int (iI (sc)), .int (iI (sd)), .int (iI (na)), .int (iI (nb)), .int (iI (be)), .int (iI (sp))])), (h4, .inl (cI, 256, .inl (aI g)))] H := hP
    have hD : va_D A [(h0, .inr (5, [.ref h1, .ref h2, .int (iI (it)), .int (iI (mk))])), (h2, .inl (cI, 4, .inl (aI nu))), (h3, .inr (7, [.ref h4, .int (iI (Wi)), .int (iI (Hi)), .int (iI (bl)), .int (iI (sc)), .int (iI (sd)), .int (iI (na)), .int (iI (nb)), .int (iI (be)), .int (iI (sp))])), (h4, .inl (cI, 256, .inl (aI g)))] := hD
    refine lv_aload_n hx hb dX5_tell_145 rfl (lv_at hl 5 rfl) ?_
    refine lv_iload hx hb dX5_tell_146 (lv_at hl 1 rfl) ?_
    refine va_put (D := D) (ci := 7) (v := .int (iI (nc))) (ty := .int) (C := RX7) (T := TX7) (N := 10) hx hb hts UX7 tyX7 tyX7_ok nmX7 hown hK hP hD hS 2 rfl rfl 8 (by decide) L105 (fun _ h9 => h9) rfl rfl rfl rfl (Nat.le_of_ble_eq_true rfl) dX5_tell_148 (fun H locs hP hD hS => ?_)
    have hP : va_P D vwCl [(h0, .inr (5, [.ref h1, .ref h2, .int (iI (it)), .int (iI (mk))])), (h2, .inl (cI, 4, .inl (aI nu))), (h3, .inr (7, [.ref h4, .int (iI (Wi)), .int (iI (Hi)), .int (iI (bl)), .int (iI (sc)), .int (iI (sd)), .int (iI (na)), .int (iI (nb)), .int (iI (nc)), .int (iI (sp))])), (h4, .inl (cI, 256, .inl (aI g)))] H := hP
    have hD : va_D A [(h0, .inr (5, [.ref h1, .ref h2, .int (iI (it)), .int (iI (mk))])), (h2, .inl (cI, 4, .inl (aI nu))), (h3, .inr (7, [.ref h4, .int (iI (Wi)), .int (iI (Hi)), .int (iI (bl)), .int (iI (sc)), .int (iI (sd)), .int (iI (na)), .int (iI (nb)), .int (iI (nc)), .int (iI (sp))])), (h4, .inl (cI, 256, .inl (aI g)))] := hD
    refine lv_aload_n hx hb dX5_tell_151 rfl (lv_at hl 5 rfl) ?_
    refine lv_iload hx hb dX5_tell_152 (lv_at hl 0 rfl) ?_
    refine va_put (D := D) (ci := 7) (v := .int (iI (d9))) (ty := .int) (C := RX7) (T := TX7) (N := 10) hx hb hts UX7 tyX7 tyX7_ok nmX7 hown hK hP hD hS 2 rfl rfl 9 (by decide) L108 (fun _ h9 => h9) rfl rfl rfl rfl (Nat.le_of_ble_eq_true rfl) dX5_tell_154 (fun H locs hP hD hS => ?_)
    have hP : va_P D vwCl [(h0, .inr (5, [.ref h1, .ref h2, .int (iI (it)), .int (iI (mk))])), (h2, .inl (cI, 4, .inl (aI nu))), (h3, .inr (7, [.ref h4, .int (iI (Wi)), .int (iI (Hi)), .int (iI (bl)), .int (iI (sc)), .int (iI (sd)), .int (iI (na)), .int (iI (nb)), .int (iI (nc)), .int (iI (d9))])), (h4, .inl (cI, 256, .inl (aI g)))] H := hP
    have hD : va_D A [(h0, .inr (5, [.ref h1, .ref h2, .int (iI (it)), .int (iI (mk))])), (h2, .inl (cI, 4, .inl (aI nu))), (h3, .inr (7, [.ref h4, .int (iI (Wi)), .int (iI (Hi)), .int (iI (bl)), .int (iI (sc)), .int (iI (sd)), .int (iI (na)), .int (iI (nb)), .int (iI (nc)), .int (iI (d9))])), (h4, .inl (cI, 256, .inl (aI g)))] := hD
    refine lv_goto (tgt := 177) hx hb dX5_tell_157 (by decide) ?_
    rw [hQ]; exact jm_vret (Wi, Hi, g, bl, sc, sd, na, nb, nc, d9) hx hb hr hlocks hS hP rfl (by (try dsimp only); (try rw [ena]); (try rw [enb]); (try rw [enc]); (try rw [ed9]); simp only [telF]; first | (rw [if_pos (by omega)]; done) | (rw [if_neg (by omega), if_pos (by omega)]; first | (rw [hw_99, h_40, ena, enb, enc, ed9]; done) | (rw [hw_114, h_40, ena, enb, enc, ed9]; done)) | (rw [if_neg (by omega), if_neg (by omega), if_pos (by omega)]; done) | (rw [if_neg (by omega), if_neg (by omega), if_neg (by omega), if_pos (by omega)]; done) | (rw [if_neg (by omega), if_neg (by omega), if_neg (by omega), if_neg (by omega)]; done)) dX5_tell_177
abbrev rmX7_reset : Room := { frames := 0, cells := 0, slots := 0, locals := 0 }
set_option maxHeartbeats 4000000 in
set_option maxRecDepth 100000 in
theorem c_X7_reset (l : Launch) (D : va_G) (cI cZ : ClassId) (z : jZT) (h0 h1 : Nat) (Wi Hi bl sc sd no tu be sp : Int) (g : Int → Int) : jMu (S := (Int → Int)) l yX7_reset wsX7_reset rmX7_reset [.ref h0] D cI cZ z [(h0, .inr (7, [.ref h1, .int (iI (Wi)), .int (iI (Hi)), .int (iI (bl)), .int (iI (sc)), .int (iI (sd)), .int (iI (no)), .int (iI (tu)), .int (iI (be)), .int (iI (sp))])), (h1, .inl (cI, 256, .inl (aI g)))] (fun u => none) (fun u => ∀ j : Int, 0 ≤ j → j < 256 → u j = 0) (fun u => [(h0, .inr (7, [.ref h1, .int (iI (8)), .int (iI (8)), .int (iI (-9)), .int (iI (0)), .int (iI (2)), .int (iI (1)), .int (iI (3)), .int (iI (0)), .int (iI (200))])), (h1, .inl (cI, 256, .inl (aI u)))]) := by
  refine jMu_of (cc := cX7_reset) (n := 2) (ret := none) (by decide) rfl (Nat.le_of_ble_eq_true rfl) ?_
  intro p e s m below meth c A ls args Q hQ F hA hZ hP hK hD hS hl
  obtain ⟨hx, hb, hr, hml, hown, hts, hlocks⟩ := F
  have hown : s.vm.findClass RX7 = some m.cls := hown
  have hl : lv_has ls 2 [(0, .ref h0)] := hl
  have L18 := hts (.fieldLink RX7 18 "TinMouse$Table" "wide" "I") (by decide +kernel)
  have L22 := hts (.fieldLink RX7 22 "TinMouse$Table" "high" "I") (by decide +kernel)
  have L9 := hts (.fieldLink RX7 9 "TinMouse$Table" "kinds" "[I") (by decide +kernel)
  have L25 := hts (.fieldLink RX7 25 "TinMouse$Table" "bell" "I") (by decide +kernel)
  have L28 := hts (.fieldLink RX7 28 "TinMouse$Table" "startCell" "I") (by decide +kernel)
  have L31 := hts (.fieldLink RX7 31 "TinMouse$Table" "startDirection" "I") (by decide +kernel)
  have L34 := hts (.fieldLink RX7 34 "TinMouse$Table" "nose" "I") (by decide +kernel)
  have L37 := hts (.fieldLink RX7 37 "TinMouse$Table" "turn" "I") (by decide +kernel)
  have L40 := hts (.fieldLink RX7 40 "TinMouse$Table" "bend" "I") (by decide +kernel)
  have L43 := hts (.fieldLink RX7 43 "TinMouse$Table" "spring" "I") (by decide +kernel)
  have UX7 : ∀ w ∈ wsX70, w ∈ wsX7_reset := fun w h => List.mem_cons_of_mem _ (List.mem_append_right _ h)
  refine lv_aload_n hx hb dX7_reset_0 rfl (lv_at hl 0 rfl) ?_
  refine lv_bipush (v := iI (8)) hx hb dX7_reset_1 (by decide) ?_
  refine va_put (D := D) (ci := 7) (v := .int (iI (8))) (ty := .int) (C := RX7) (T := TX7) (N := 10) hx hb hts UX7 tyX7 tyX7_ok nmX7 hown hK hP hD hS 0 rfl rfl 1 (by decide) L18 (fun _ h9 => h9) rfl rfl rfl rfl (Nat.le_of_ble_eq_true rfl) dX7_reset_3 (fun H locs hP hD hS => ?_)
  have hP : va_P D vwCl [(h0, .inr (7, [.ref h1, .int (iI (8)), .int (iI (Hi)), .int (iI (bl)), .int (iI (sc)), .int (iI (sd)), .int (iI (no)), .int (iI (tu)), .int (iI (be)), .int (iI (sp))])), (h1, .inl (cI, 256, .inl (aI g)))] H := hP
  have hD : va_D A [(h0, .inr (7, [.ref h1, .int (iI (8)), .int (iI (Hi)), .int (iI (bl)), .int (iI (sc)), .int (iI (sd)), .int (iI (no)), .int (iI (tu)), .int (iI (be)), .int (iI (sp))])), (h1, .inl (cI, 256, .inl (aI g)))] := hD
  refine lv_aload_n hx hb dX7_reset_6 rfl (lv_at hl 0 rfl) ?_
  refine lv_bipush (v := iI (8)) hx hb dX7_reset_7 (by decide) ?_
  refine va_put (D := D) (ci := 7) (v := .int (iI (8))) (ty := .int) (C := RX7) (T := TX7) (N := 10) hx hb hts UX7 tyX7 tyX7_ok nmX7 hown hK hP hD hS 0 rfl rfl 2 (by decide) L22 (fun _ h9 => h9) rfl rfl rfl rfl (Nat.le_of_ble_eq_true rfl) dX7_reset_9 (fun H locs hP hD hS => ?_)
  have hP : va_P D vwCl [(h0, .inr (7, [.ref h1, .int (iI (8)), .int (iI (8)), .int (iI (bl)), .int (iI (sc)), .int (iI (sd)), .int (iI (no)), .int (iI (tu)), .int (iI (be)), .int (iI (sp))])), (h1, .inl (cI, 256, .inl (aI g)))] H := hP
  have hD : va_D A [(h0, .inr (7, [.ref h1, .int (iI (8)), .int (iI (8)), .int (iI (bl)), .int (iI (sc)), .int (iI (sd)), .int (iI (no)), .int (iI (tu)), .int (iI (be)), .int (iI (sp))])), (h1, .inl (cI, 256, .inl (aI g)))] := hD
  refine lv_iconst (v := iI (0)) hx hb dX7_reset_12 rfl ?_
  refine lv_istore_n (lv' := [(1, .int (iI (0))), (0, .ref h0)]) hx hb dX7_reset_13 rfl hl (by decide) rfl (fun ls hl => ?_)
  have loop_14 : ∀ (fuel_14 : Nat) (i : Int) (g9 : Int → Int), (0 ≤ i ∧ i ≤ 256 ∧ ∀ j : Int, 0 ≤ j → j < i → g9 j = 0) → (256 - i).toNat < fuel_14 → ∀ (H : Heap) (locs : List Loc), va_P D vwCl [(h0, .inr (7, [.ref h1, .int (iI (8)), .int (iI (8)), .int (iI (bl)), .int (iI (sc)), .int (iI (sd)), .int (iI (no)), .int (iI (tu)), .int (iI (be)), .int (iI (sp))])), (h1, .inl (cI, 256, .inl (aI g9)))] H → va_D A [(h0, .inr (7, [.ref h1, .int (iI (8)), .int (iI (8)), .int (iI (bl)), .int (iI (sc)), .int (iI (sd)), .int (iI (no)), .int (iI (tu)), .int (iI (be)), .int (iI (sp))])), (h1, .inl (cI, 256, .inl (aI g9)))] → va_S A s.heap H locs → ∀ ls : Array Slot, lv_has ls 2 [(0, .ref h0), (1, .int (iI (i)))] → W p l e rmX7_reset s m args below meth c H locs 0 0 Q (F0 m 14 ls []) := by
    intro fuel_14
    induction fuel_14 with
    | zero => intro i g9 hI9 hm9; exact absurd hm9 (Nat.not_lt_zero _)
    | succ fuel_14 ih_14 =>
      intro i g9 hI_14 hm_14 H locs hP hD hS ls hl
      obtain ⟨hi1, hi2, hi3⟩ := hI_14
      refine lv_iload_n hx hb dX7_reset_14 rfl (lv_at hl 1 rfl) ?_
      refine lv_aload_n hx hb dX7_reset_15 rfl (lv_at hl 0 rfl) ?_
      refine va_get (D := D) (ci := 7) (v := .ref h1) (C := RX7) (T := TX7) (N := 10) hx hb hts UX7 hown hK hP 0 rfl rfl 0 (by decide) L9 (fun _ h9 => h9) rfl dX7_reset_16 ?_
      refine j_alen hx hb hK hP 1 0 rfl rfl dX7_reset_19 ?_
      refine j_icmp_ge (tgt := 36) hx hb (by omega) dX7_reset_20 (by decide) (fun c_20 => ?_) (fun c_20 => ?_)
      · refine lv_aload_n hx hb dX7_reset_36 rfl (lv_at hl 0 rfl) ?_
        refine lv_bipush (v := iI (-9)) hx hb dX7_reset_37 (by decide) ?_
        refine va_put (D := D) (ci := 7) (v := .int (iI (-9))) (ty := .int) (C := RX7) (T := TX7) (N := 10) hx hb hts UX7 tyX7 tyX7_ok nmX7 hown hK hP hD hS 0 rfl rfl 3 (by decide) L25 (fun _ h9 => h9) rfl rfl rfl rfl (Nat.le_of_ble_eq_true rfl) dX7_reset_39 (fun H locs hP hD hS => ?_)
        have hP : va_P D vwCl [(h0, .inr (7, [.ref h1, .int (iI (8)), .int (iI (8)), .int (iI (-9)), .int (iI (sc)), .int (iI (sd)), .int (iI (no)), .int (iI (tu)), .int (iI (be)), .int (iI (sp))])), (h1, .inl (cI, 256, .inl (aI g9)))] H := hP
        have hD : va_D A [(h0, .inr (7, [.ref h1, .int (iI (8)), .int (iI (8)), .int (iI (-9)), .int (iI (sc)), .int (iI (sd)), .int (iI (no)), .int (iI (tu)), .int (iI (be)), .int (iI (sp))])), (h1, .inl (cI, 256, .inl (aI g9)))] := hD
        refine lv_aload_n hx hb dX7_reset_42 rfl (lv_at hl 0 rfl) ?_
        refine lv_iconst (v := iI (0)) hx hb dX7_reset_43 rfl ?_
        refine va_put (D := D) (ci := 7) (v := .int (iI (0))) (ty := .int) (C := RX7) (T := TX7) (N := 10) hx hb hts UX7 tyX7 tyX7_ok nmX7 hown hK hP hD hS 0 rfl rfl 4 (by decide) L28 (fun _ h9 => h9) rfl rfl rfl rfl (Nat.le_of_ble_eq_true rfl) dX7_reset_44 (fun H locs hP hD hS => ?_)
        have hP : va_P D vwCl [(h0, .inr (7, [.ref h1, .int (iI (8)), .int (iI (8)), .int (iI (-9)), .int (iI (0)), .int (iI (sd)), .int (iI (no)), .int (iI (tu)), .int (iI (be)), .int (iI (sp))])), (h1, .inl (cI, 256, .inl (aI g9)))] H := hP
        have hD : va_D A [(h0, .inr (7, [.ref h1, .int (iI (8)), .int (iI (8)), .int (iI (-9)), .int (iI (0)), .int (iI (sd)), .int (iI (no)), .int (iI (tu)), .int (iI (be)), .int (iI (sp))])), (h1, .inl (cI, 256, .inl (aI g9)))] := hD
        refine lv_aload_n hx hb dX7_reset_47 rfl (lv_at hl 0 rfl) ?_
        refine lv_iconst (v := iI (2)) hx hb dX7_reset_48 rfl ?_
        refine va_put (D := D) (ci := 7) (v := .int (iI (2))) (ty := .int) (C := RX7) (T := TX7) (N := 10) hx hb hts UX7 tyX7 tyX7_ok nmX7 hown hK hP hD hS 0 rfl rfl 5 (by decide) L31 (fun _ h9 => h9) rfl rfl rfl rfl (Nat.le_of_ble_eq_true rfl) dX7_reset_49 (fun H locs hP hD hS => ?_)
        have hP : va_P D vwCl [(h0, .inr (7, [.ref h1, .int (iI (8)), .int (iI (8)), .int (iI (-9)), .int (iI (0)), .int (iI (2)), .int (iI (no)), .int (iI (tu)), .int (iI (be)), .int (iI (sp))])), (h1, .inl (cI, 256, .inl (aI g9)))] H := hP
        have hD : va_D A [(h0, .inr (7, [.ref h1, .int (iI (8)), .int (iI (8)), .int (iI (-9)), .int (iI (0)), .int (iI (2)), .int (iI (no)), .int (iI (tu)), .int (iI (be)), .int (iI (sp))])), (h1, .inl (cI, 256, .inl (aI g9)))] := hD
        refine lv_aload_n hx hb dX7_reset_52 rfl (lv_at hl 0 rfl) ?_
        refine lv_iconst (v := iI (1)) hx hb dX7_reset_53 rfl ?_
        refine va_put (D := D) (ci := 7) (v := .int (iI (1))) (ty := .int) (C := RX7) (T := TX7) (N := 10) hx hb hts UX7 tyX7 tyX7_ok nmX7 hown hK hP hD hS 0 rfl rfl 6 (by decide) L34 (fun _ h9 => h9) rfl rfl rfl rfl (Nat.le_of_ble_eq_true rfl) dX7_reset_54 (fun H locs hP hD hS => ?_)
        have hP : va_P D vwCl [(h0, .inr (7, [.ref h1, .int (iI (8)), .int (iI (8)), .int (iI (-9)), .int (iI (0)), .int (iI (2)), .int (iI (1)), .int (iI (tu)), .int (iI (be)), .int (iI (sp))])), (h1, .inl (cI, 256, .inl (aI g9)))] H := hP
        have hD : va_D A [(h0, .inr (7, [.ref h1, .int (iI (8)), .int (iI (8)), .int (iI (-9)), .int (iI (0)), .int (iI (2)), .int (iI (1)), .int (iI (tu)), .int (iI (be)), .int (iI (sp))])), (h1, .inl (cI, 256, .inl (aI g9)))] := hD
        refine lv_aload_n hx hb dX7_reset_57 rfl (lv_at hl 0 rfl) ?_
        refine lv_iconst (v := iI (3)) hx hb dX7_reset_58 rfl ?_
        refine va_put (D := D) (ci := 7) (v := .int (iI (3))) (ty := .int) (C := RX7) (T := TX7) (N := 10) hx hb hts UX7 tyX7 tyX7_ok nmX7 hown hK hP hD hS 0 rfl rfl 7 (by decide) L37 (fun _ h9 => h9) rfl rfl rfl rfl (Nat.le_of_ble_eq_true rfl) dX7_reset_59 (fun H locs hP hD hS => ?_)
        have hP : va_P D vwCl [(h0, .inr (7, [.ref h1, .int (iI (8)), .int (iI (8)), .int (iI (-9)), .int (iI (0)), .int (iI (2)), .int (iI (1)), .int (iI (3)), .int (iI (be)), .int (iI (sp))])), (h1, .inl (cI, 256, .inl (aI g9)))] H := hP
        have hD : va_D A [(h0, .inr (7, [.ref h1, .int (iI (8)), .int (iI (8)), .int (iI (-9)), .int (iI (0)), .int (iI (2)), .int (iI (1)), .int (iI (3)), .int (iI (be)), .int (iI (sp))])), (h1, .inl (cI, 256, .inl (aI g9)))] := hD
        refine lv_aload_n hx hb dX7_reset_62 rfl (lv_at hl 0 rfl) ?_
        refine lv_iconst (v := iI (0)) hx hb dX7_reset_63 rfl ?_
        refine va_put (D := D) (ci := 7) (v := .int (iI (0))) (ty := .int) (C := RX7) (T := TX7) (N := 10) hx hb hts UX7 tyX7 tyX7_ok nmX7 hown hK hP hD hS 0 rfl rfl 8 (by decide) L40 (fun _ h9 => h9) rfl rfl rfl rfl (Nat.le_of_ble_eq_true rfl) dX7_reset_64 (fun H locs hP hD hS => ?_)
        have hP : va_P D vwCl [(h0, .inr (7, [.ref h1, .int (iI (8)), .int (iI (8)), .int (iI (-9)), .int (iI (0)), .int (iI (2)), .int (iI (1)), .int (iI (3)), .int (iI (0)), .int (iI (sp))])), (h1, .inl (cI, 256, .inl (aI g9)))] H := hP
        have hD : va_D A [(h0, .inr (7, [.ref h1, .int (iI (8)), .int (iI (8)), .int (iI (-9)), .int (iI (0)), .int (iI (2)), .int (iI (1)), .int (iI (3)), .int (iI (0)), .int (iI (sp))])), (h1, .inl (cI, 256, .inl (aI g9)))] := hD
        refine lv_aload_n hx hb dX7_reset_67 rfl (lv_at hl 0 rfl) ?_
        refine lv_sipush (v := iI (200)) hx hb dX7_reset_68 (by decide) ?_
        refine va_put (D := D) (ci := 7) (v := .int (iI (200))) (ty := .int) (C := RX7) (T := TX7) (N := 10) hx hb hts UX7 tyX7 tyX7_ok nmX7 hown hK hP hD hS 0 rfl rfl 9 (by decide) L43 (fun _ h9 => h9) rfl rfl rfl rfl (Nat.le_of_ble_eq_true rfl) dX7_reset_71 (fun H locs hP hD hS => ?_)
        have hP : va_P D vwCl [(h0, .inr (7, [.ref h1, .int (iI (8)), .int (iI (8)), .int (iI (-9)), .int (iI (0)), .int (iI (2)), .int (iI (1)), .int (iI (3)), .int (iI (0)), .int (iI (200))])), (h1, .inl (cI, 256, .inl (aI g9)))] H := hP
        have hD : va_D A [(h0, .inr (7, [.ref h1, .int (iI (8)), .int (iI (8)), .int (iI (-9)), .int (iI (0)), .int (iI (2)), .int (iI (1)), .int (iI (3)), .int (iI (0)), .int (iI (200))])), (h1, .inl (cI, 256, .inl (aI g9)))] := hD
        rw [hQ]; exact jm_vret g9 hx hb hr hlocks hS hP rfl (by (try dsimp only); exact fun j h1 h2 => hi3 j h1 (by omega)) dX7_reset_74
      · refine lv_aload_n hx hb dX7_reset_23 rfl (lv_at hl 0 rfl) ?_
        refine va_get (D := D) (ci := 7) (v := .ref h1) (C := RX7) (T := TX7) (N := 10) hx hb hts UX7 hown hK hP 0 rfl rfl 0 (by decide) L9 (fun _ h9 => h9) rfl dX7_reset_24 ?_
        refine lv_iload_n hx hb dX7_reset_27 rfl (lv_at hl 1 rfl) ?_
        refine lv_iconst (v := iI (0)) hx hb dX7_reset_28 rfl ?_
        refine j_iast hx hb hK hP hD hS 1 0 rfl rfl (by omega) dX7_reset_29 (fun H locs hP hD hS => ?_)
        have hP : va_P D vwCl [(h0, .inr (7, [.ref h1, .int (iI (8)), .int (iI (8)), .int (iI (bl)), .int (iI (sc)), .int (iI (sd)), .int (iI (no)), .int (iI (tu)), .int (iI (be)), .int (iI (sp))])), (h1, .inl (cI, 256, .inl (aI (upZ g9 i 0))))] H := hP
        have hD : va_D A [(h0, .inr (7, [.ref h1, .int (iI (8)), .int (iI (8)), .int (iI (bl)), .int (iI (sc)), .int (iI (sd)), .int (iI (no)), .int (iI (tu)), .int (iI (be)), .int (iI (sp))])), (h1, .inl (cI, 256, .inl (aI (upZ g9 i 0))))] := hD
        refine lv_iinc (v := iI (i + 1)) (lv' := [(1, .int (iI (i + 1))), (0, .ref h0)]) hx hb dX7_reset_30 hl (k := 1) rfl (iI_add _ _) (by decide) rfl (fun ls hl => ?_)
        refine lv_goto (tgt := 14) hx hb dX7_reset_33 (by decide) ?_
        exact ih_14 ((i + 1)) ((upZ g9 i 0)) (by exact ⟨by omega, by omega, fun j h1 h2 => by by_cases hj : j = i <;> first | (rw [hj, upZ_s]; done) | (rw [upZ_n hj]; exact hi3 j h1 (by omega))⟩) (by omega) H locs hP hD hS ls (lv_sub hl [1, 0] rfl)
  exact loop_14 _ 0 g (by exact ⟨by omega, by omega, fun j h1 h2 => by omega⟩) (Nat.lt_succ_self _) H locs hP hD hS ls (lv_sub hl [1, 0] rfl)
