abbrev rmX10_at : Room := { frames := 0, cells := 0, slots := 0, locals := 0 }
set_option maxHeartbeats 4000000 in
set_option maxRecDepth 100000 in
theorem c_X10_at (l : Launch) (D : va_G) (cI cZ : ClassId) (z : jZT) (h0 : Nat) (i : Int) (g : Int → Int) (n : Nat) (hn : n < 2147483648) (hi : -2147483648 ≤ i ∧ i < 2147483648) : jRd l yX10_at wsX10_at rmX10_at [.ref h0, .int (iI (i))] D cI cZ z [(h0, .inl (cI, n, .inl (aI g)))] (some (.int (iI (atI ((n : Nat) : Int) g i)))) := by
  refine jRd_of (cc := cX10_at) (n := 2) (ret := (some .int)) (by decide) rfl (Nat.le_of_ble_eq_true rfl) ?_
  intro p e s m below meth c A ls args Q hQ F hA hZ hP hK hD hS hl
  obtain ⟨hx, hb, hr, hml, hown, hts, hlocks⟩ := F
  have hown : s.vm.findClass RX10 = some m.cls := hown
  have hl : lv_has ls 2 [(0, .ref h0), (1, .int (iI (i)))] := hl
  refine lv_iload_n hx hb dX10_at_0 rfl (lv_at hl 1 rfl) ?_
  refine j_if_lt (tgt := 16) hx hb (by omega) dX10_at_1 (by decide) (fun c_1 => ?_) (fun c_1 => ?_)
  · refine lv_iconst (v := iI (0)) hx hb dX10_at_16 rfl ?_
    rw [hQ]; exact jr_iret hx hb hr hlocks (jo_i (by unfold atI; first | (rw [if_pos (by omega)]; done) | (rw [if_neg (by omega)]; done))) dX10_at_17
  · refine lv_iload_n hx hb dX10_at_4 rfl (lv_at hl 1 rfl) ?_
    refine lv_aload_n hx hb dX10_at_5 rfl (lv_at hl 0 rfl) ?_
    refine j_alen hx hb hK hP 0 0 rfl rfl dX10_at_6 ?_
    refine j_icmp_ge (tgt := 16) hx hb (by omega) dX10_at_7 (by decide) (fun c_7 => ?_) (fun c_7 => ?_)
    · refine lv_iconst (v := iI (0)) hx hb dX10_at_16 rfl ?_
      rw [hQ]; exact jr_iret hx hb hr hlocks (jo_i (by unfold atI; first | (rw [if_pos (by omega)]; done) | (rw [if_neg (by omega)]; done))) dX10_at_17
    · refine lv_aload_n hx hb dX10_at_10 rfl (lv_at hl 0 rfl) ?_
      refine lv_iload_n hx hb dX10_at_11 rfl (lv_at hl 1 rfl) ?_
      refine j_iald hx hb hK hP 0 0 rfl rfl (by omega) dX10_at_12 ?_
      refine lv_goto (tgt := 17) hx hb dX10_at_13 (by decide) ?_
      rw [hQ]; exact jr_iret hx hb hr hlocks (jo_i (by unfold atI; first | (rw [if_pos (by omega)]; done) | (rw [if_neg (by omega)]; done))) dX10_at_17
abbrev rmX10_atR : Room := { frames := 0, cells := 0, slots := 0, locals := 0 }
set_option maxHeartbeats 4000000 in
set_option maxRecDepth 100000 in
theorem c_X10_atR (l : Launch) (D : va_G) (cI cZ : ClassId) (z : jZT) (i : Int) (hi : -2147483648 ≤ i ∧ i < 2147483648) : jRd l yX10_at wsX10_at rmX10_atR [.ref (z.1), .int (iI (i))] D cI cZ z [] (some (.int (iI (rx i)))) := by
  refine jRd_of (cc := cX10_at) (n := 2) (ret := (some .int)) (by decide) rfl (Nat.le_of_ble_eq_true rfl) ?_
  intro p e s m below meth c A ls args Q hQ F hA hZ hP hK hD hS hl
  obtain ⟨hx, hb, hr, hml, hown, hts, hlocks⟩ := F
  have hown : s.vm.findClass RX10 = some m.cls := hown
  have hl : lv_has ls 2 [(0, .ref (z.1)), (1, .int (iI (i)))] := hl
  refine lv_iload_n hx hb dX10_at_0 rfl (lv_at hl 1 rfl) ?_
  refine j_if_lt (tgt := 16) hx hb (by omega) dX10_at_1 (by decide) (fun c_1 => ?_) (fun c_1 => ?_)
  · refine lv_iconst (v := iI (0)) hx hb dX10_at_16 rfl ?_
    rw [hQ]; exact jr_iret hx hb hr hlocks (jo_i (by first | rfl | (unfold rx; omega))) dX10_at_17
  · refine lv_iload_n hx hb dX10_at_4 rfl (lv_at hl 1 rfl) ?_
    refine lv_aload_n hx hb dX10_at_5 rfl (lv_at hl 0 rfl) ?_
    refine j_tlen hx hb hZ.1.2 hS dX10_at_6 ?_
    refine j_icmp_ge (tgt := 16) hx hb (by omega) dX10_at_7 (by decide) (fun c_7 => ?_) (fun c_7 => ?_)
    · refine lv_iconst (v := iI (0)) hx hb dX10_at_16 rfl ?_
      rw [hQ]; exact jr_iret hx hb hr hlocks (jo_i (by first | rfl | (unfold rx; omega))) dX10_at_17
    · refine lv_aload_n hx hb dX10_at_10 rfl (lv_at hl 0 rfl) ?_
      refine lv_iload_n hx hb dX10_at_11 rfl (lv_at hl 1 rfl) ?_
      refine j_ti hx hb hZ.1.2 hS (by omega) dX10_at_12 ?_
      refine lv_goto (tgt := 17) hx hb dX10_at_13 (by decide) ?_
      rw [hQ]; exact jr_iret hx hb hr hlocks rfl dX10_at_17
abbrev rmX10_atD : Room := { frames := 0, cells := 0, slots := 0, locals := 0 }
set_option maxHeartbeats 4000000 in
set_option maxRecDepth 100000 in
theorem c_X10_atD (l : Launch) (D : va_G) (cI cZ : ClassId) (z : jZT) (i : Int) (hi : -2147483648 ≤ i ∧ i < 2147483648) : jRd l yX10_at wsX10_at rmX10_atD [.ref (z.2.1), .int (iI (i))] D cI cZ z [] (some (.int (iI (ry i)))) := by
  refine jRd_of (cc := cX10_at) (n := 2) (ret := (some .int)) (by decide) rfl (Nat.le_of_ble_eq_true rfl) ?_
  intro p e s m below meth c A ls args Q hQ F hA hZ hP hK hD hS hl
  obtain ⟨hx, hb, hr, hml, hown, hts, hlocks⟩ := F
  have hown : s.vm.findClass RX10 = some m.cls := hown
  have hl : lv_has ls 2 [(0, .ref (z.2.1)), (1, .int (iI (i)))] := hl
  refine lv_iload_n hx hb dX10_at_0 rfl (lv_at hl 1 rfl) ?_
  refine j_if_lt (tgt := 16) hx hb (by omega) dX10_at_1 (by decide) (fun c_1 => ?_) (fun c_1 => ?_)
  · refine lv_iconst (v := iI (0)) hx hb dX10_at_16 rfl ?_
    rw [hQ]; exact jr_iret hx hb hr hlocks (jo_i (by first | rfl | (unfold ry; omega))) dX10_at_17
  · refine lv_iload_n hx hb dX10_at_4 rfl (lv_at hl 1 rfl) ?_
    refine lv_aload_n hx hb dX10_at_5 rfl (lv_at hl 0 rfl) ?_
    refine j_tlen hx hb hZ.2.1.2 hS dX10_at_6 ?_
    refine j_icmp_ge (tgt := 16) hx hb (by omega) dX10_at_7 (by decide) (fun c_7 => ?_) (fun c_7 => ?_)
    · refine lv_iconst (v := iI (0)) hx hb dX10_at_16 rfl ?_
      rw [hQ]; exact jr_iret hx hb hr hlocks (jo_i (by first | rfl | (unfold ry; omega))) dX10_at_17
    · refine lv_aload_n hx hb dX10_at_10 rfl (lv_at hl 0 rfl) ?_
      refine lv_iload_n hx hb dX10_at_11 rfl (lv_at hl 1 rfl) ?_
      refine j_ti hx hb hZ.2.1.2 hS (by omega) dX10_at_12 ?_
      refine lv_goto (tgt := 17) hx hb dX10_at_13 (by decide) ?_
      rw [hQ]; exact jr_iret hx hb hr hlocks rfl dX10_at_17
abbrev rmX10_set : Room := { frames := 0, cells := 0, slots := 0, locals := 0 }
set_option maxHeartbeats 4000000 in
set_option maxRecDepth 100000 in
theorem c_X10_set (l : Launch) (D : va_G) (cI cZ : ClassId) (z : jZT) (h0 : Nat) (i v : Int) (g : Int → Int) (n : Nat) (hn : n < 2147483648) (hi : -2147483648 ≤ i ∧ i < 2147483648) : jMu (S := (Int → Int)) l yX10_set wsX10_set rmX10_set [.ref h0, .int (iI (i)), .int (iI (v))] D cI cZ z [(h0, .inl (cI, n, .inl (aI g)))] (fun u => none) (fun u => u = setI ((n : Nat) : Int) g i v) (fun u => [(h0, .inl (cI, n, .inl (aI u)))]) := by
  refine jMu_of (cc := cX10_set) (n := 3) (ret := none) (by decide) rfl (Nat.le_of_ble_eq_true rfl) ?_
  intro p e s m below meth c A ls args Q hQ F hA hZ hP hK hD hS hl
  obtain ⟨hx, hb, hr, hml, hown, hts, hlocks⟩ := F
  have hown : s.vm.findClass RX10 = some m.cls := hown
  have hl : lv_has ls 3 [(0, .ref h0), (1, .int (iI (i))), (2, .int (iI (v)))] := hl
  refine lv_iload_n hx hb dX10_set_0 rfl (lv_at hl 1 rfl) ?_
  refine j_if_lt (tgt := 14) hx hb (by omega) dX10_set_1 (by decide) (fun c_1 => ?_) (fun c_1 => ?_)
  · rw [hQ]; exact jm_vret g hx hb hr hlocks hS hP rfl (by (try dsimp only); unfold setI; first | (rw [if_pos (by omega)]; done) | (rw [if_neg (by omega)]; done)) dX10_set_14
  · refine lv_iload_n hx hb dX10_set_4 rfl (lv_at hl 1 rfl) ?_
    refine lv_aload_n hx hb dX10_set_5 rfl (lv_at hl 0 rfl) ?_
    refine j_alen hx hb hK hP 0 0 rfl rfl dX10_set_6 ?_
    refine j_icmp_ge (tgt := 14) hx hb (by omega) dX10_set_7 (by decide) (fun c_7 => ?_) (fun c_7 => ?_)
    · rw [hQ]; exact jm_vret g hx hb hr hlocks hS hP rfl (by (try dsimp only); unfold setI; first | (rw [if_pos (by omega)]; done) | (rw [if_neg (by omega)]; done)) dX10_set_14
    · refine lv_aload_n hx hb dX10_set_10 rfl (lv_at hl 0 rfl) ?_
      refine lv_iload_n hx hb dX10_set_11 rfl (lv_at hl 1 rfl) ?_
      refine lv_iload_n hx hb dX10_set_12 rfl (lv_at hl 2 rfl) ?_
      refine j_iast hx hb hK hP hD hS 0 0 rfl rfl (by omega) dX10_set_13 (fun H locs hP hD hS => ?_)
      have hP : va_P D vwCl [(h0, .inl (cI, n, .inl (aI (upZ g i v))))] H := hP
      have hD : va_D A [(h0, .inl (cI, n, .inl (aI (upZ g i v))))] := hD
      rw [hQ]; exact jm_vret (upZ g i v) hx hb hr hlocks hS hP rfl (by (try dsimp only); unfold setI; first | (rw [if_pos (by omega)]; done) | (rw [if_neg (by omega)]; done)) dX10_set_14
abbrev rmX10_standOf : Room := { frames := 0, cells := 0, slots := 0, locals := 0 }
set_option maxHeartbeats 4000000 in
set_option maxRecDepth 100000 in
theorem c_X10_standOf (l : Launch) (D : va_G) (cI cZ : ClassId) (z : jZT) (k d b : Int) : jRd l yX10_standOf wsX10_standOf rmX10_standOf [.int (iI (k)), .int (iI (d)), .int (iI (b))] D cI cZ z [] (some (.int (iI ((k * 8 + d) * 9 + b)))) := by
  refine jRd_of (cc := cX10_standOf) (n := 3) (ret := (some .int)) (by decide) rfl (Nat.le_of_ble_eq_true rfl) ?_
  intro p e s m below meth c A ls args Q hQ F hA hZ hP hK hD hS hl
  obtain ⟨hx, hb, hr, hml, hown, hts, hlocks⟩ := F
  have hown : s.vm.findClass RX10 = some m.cls := hown
  have hl : lv_has ls 3 [(0, .int (iI (k))), (1, .int (iI (d))), (2, .int (iI (b)))] := hl
  refine lv_iload_n hx hb dX10_standOf_0 rfl (lv_at hl 0 rfl) ?_
  refine lv_bipush (v := iI (8)) hx hb dX10_standOf_1 (by decide) ?_
  refine j_imul hx hb dX10_standOf_3 ?_
  refine lv_iload_n hx hb dX10_standOf_4 rfl (lv_at hl 1 rfl) ?_
  refine j_iadd hx hb dX10_standOf_5 ?_
  refine lv_bipush (v := iI (9)) hx hb dX10_standOf_6 (by decide) ?_
  refine j_imul hx hb dX10_standOf_8 ?_
  refine lv_iload_n hx hb dX10_standOf_9 rfl (lv_at hl 2 rfl) ?_
  refine j_iadd hx hb dX10_standOf_10 ?_
  rw [hQ]; exact jr_iret hx hb hr hlocks (jo_i (by rfl)) dX10_standOf_11
abbrev rmX10_cellOf : Room := { frames := 0, cells := 0, slots := 0, locals := 0 }
set_option maxHeartbeats 4000000 in
set_option maxRecDepth 100000 in
theorem c_X10_cellOf (l : Launch) (D : va_G) (cI cZ : ClassId) (z : jZT) (q : Int) (hq : -2147483648 ≤ q ∧ q < 2147483648) : jRd l yX10_cellOf wsX10_cellOf rmX10_cellOf [.int (iI (q))] D cI cZ z [] (some (.int (iI (if 0 ≤ q then q / 72 else -9)))) := by
  refine jRd_of (cc := cX10_cellOf) (n := 1) (ret := (some .int)) (by decide) rfl (Nat.le_of_ble_eq_true rfl) ?_
  intro p e s m below meth c A ls args Q hQ F hA hZ hP hK hD hS hl
  obtain ⟨hx, hb, hr, hml, hown, hts, hlocks⟩ := F
  have hown : s.vm.findClass RX10 = some m.cls := hown
  have hl : lv_has ls 1 [(0, .int (iI (q)))] := hl
  refine lv_iload_n hx hb dX10_cellOf_0 rfl (lv_at hl 0 rfl) ?_
  refine j_if_lt (tgt := 11) hx hb (by omega) dX10_cellOf_1 (by decide) (fun c_1 => ?_) (fun c_1 => ?_)
  · refine lv_bipush (v := iI (-9)) hx hb dX10_cellOf_11 (by decide) ?_
    rw [hQ]; exact jr_iret hx hb hr hlocks (jo_i (by first | (rw [if_pos (by omega)]; done) | (rw [if_neg (by omega)]; done))) dX10_cellOf_13
  · refine lv_iload_n hx hb dX10_cellOf_4 rfl (lv_at hl 0 rfl) ?_
    refine lv_bipush (v := iI (72)) hx hb dX10_cellOf_5 (by decide) ?_
    refine j_idiv hx hb (by omega) dX10_cellOf_7 ?_
    refine lv_goto (tgt := 13) hx hb dX10_cellOf_8 (by decide) ?_
    rw [hQ]; exact jr_iret hx hb hr hlocks (jo_i (by first | (rw [if_pos (by omega)]; done) | (rw [if_neg (by omega)]; done))) dX10_cellOf_13
abbrev rmX7_size : Room := { frames := 0, cells := 0, slots := 0, locals := 0 }
set_option maxHeartbeats 4000000 in
set_option maxRecDepth 100000 in
theorem c_X7_size (l : Launch) (D : va_G) (cI cZ : ClassId) (z : jZT) (h0 h1 : Nat) (Wi Hi bl sc sd no tu be sp : Int) (g : Int → Int) : jRd l yX7_size wsX7_size rmX7_size [.ref h0] D cI cZ z [(h0, .inr (7, [.ref h1, .int (iI (Wi)), .int (iI (Hi)), .int (iI (bl)), .int (iI (sc)), .int (iI (sd)), .int (iI (no)), .int (iI (tu)), .int (iI (be)), .int (iI (sp))])), (h1, .inl (cI, 256, .inl (aI g)))] (some (.int (iI (Wi * Hi)))) := by
  refine jRd_of (cc := cX7_size) (n := 1) (ret := (some .int)) (by decide) rfl (Nat.le_of_ble_eq_true rfl) ?_
  intro p e s m below meth c A ls args Q hQ F hA hZ hP hK hD hS hl
  obtain ⟨hx, hb, hr, hml, hown, hts, hlocks⟩ := F
  have hown : s.vm.findClass RX7 = some m.cls := hown
  have hl : lv_has ls 1 [(0, .ref h0)] := hl
  have L18 := hts (.fieldLink RX7 18 "TinMouse$Table" "wide" "I") (by decide +kernel)
  have L22 := hts (.fieldLink RX7 22 "TinMouse$Table" "high" "I") (by decide +kernel)
  have UX7 : ∀ w ∈ wsX70, w ∈ wsX7_size := fun w h => List.mem_cons_of_mem _ (List.mem_append_right _ h)
  refine lv_aload_n hx hb dX7_size_0 rfl (lv_at hl 0 rfl) ?_
  refine va_get (D := D) (ci := 7) (v := .int (iI (Wi))) (C := RX7) (T := TX7) (N := 10) hx hb hts UX7 hown hK hP 0 rfl rfl 1 (by decide) L18 (fun _ h9 => h9) rfl dX7_size_1 ?_
  refine lv_aload_n hx hb dX7_size_4 rfl (lv_at hl 0 rfl) ?_
  refine va_get (D := D) (ci := 7) (v := .int (iI (Hi))) (C := RX7) (T := TX7) (N := 10) hx hb hts UX7 hown hK hP 0 rfl rfl 2 (by decide) L22 (fun _ h9 => h9) rfl dX7_size_5 ?_
  refine j_imul hx hb dX7_size_8 ?_
  rw [hQ]; exact jr_iret hx hb hr hlocks rfl dX7_size_9
abbrev rmX7_has : Room := { frames := 0, cells := 0, slots := 0, locals := 0 }
set_option maxHeartbeats 4000000 in
set_option maxRecDepth 100000 in
theorem c_X7_has (l : Launch) (D : va_G) (cI cZ : ClassId) (z : jZT) (h0 h1 : Nat) (x y Wi Hi bl sc sd no tu be sp : Int) (g : Int → Int) (hW : 3 ≤ Wi ∧ Wi ≤ 16) (hH : 3 ≤ Hi ∧ Hi ≤ 16) (hx1 : -2147483648 ≤ x ∧ x < 2147483648) (hy1 : -2147483648 ≤ y ∧ y < 2147483648) : jRd l yX7_has wsX7_has rmX7_has [.ref h0, .int (iI (x)), .int (iI (y))] D cI cZ z [(h0, .inr (7, [.ref h1, .int (iI (Wi)), .int (iI (Hi)), .int (iI (bl)), .int (iI (sc)), .int (iI (sd)), .int (iI (no)), .int (iI (tu)), .int (iI (be)), .int (iI (sp))])), (h1, .inl (cI, 256, .inl (aI g)))] (some (.int (iI (bI (inT Wi Hi x y))))) := by
  refine jRd_of (cc := cX7_has) (n := 3) (ret := (some .boolean)) (by decide) rfl (Nat.le_of_ble_eq_true rfl) ?_
  intro p e s m below meth c A ls args Q hQ F hA hZ hP hK hD hS hl
  obtain ⟨hx, hb, hr, hml, hown, hts, hlocks⟩ := F
  have hown : s.vm.findClass RX7 = some m.cls := hown
  have hl : lv_has ls 3 [(0, .ref h0), (1, .int (iI (x))), (2, .int (iI (y)))] := hl
  have L18 := hts (.fieldLink RX7 18 "TinMouse$Table" "wide" "I") (by decide +kernel)
  have L22 := hts (.fieldLink RX7 22 "TinMouse$Table" "high" "I") (by decide +kernel)
  have UX7 : ∀ w ∈ wsX70, w ∈ wsX7_has := fun w h => List.mem_cons_of_mem _ (List.mem_append_right _ h)
  refine lv_iload_n hx hb dX7_has_0 rfl (lv_at hl 1 rfl) ?_
  refine j_if_lt (tgt := 28) hx hb (by omega) dX7_has_1 (by decide) (fun c_1 => ?_) (fun c_1 => ?_)
  · refine lv_iconst (v := iI (0)) hx hb dX7_has_28 rfl ?_
    rw [hQ]; exact jr_zret hx hb hr hlocks jn_0 (jo_i (by unfold inT; first | (rw [decide_eq_true (by omega)]; rfl) | (rw [decide_eq_false (by omega)]; rfl))) dX7_has_29
  · refine lv_iload_n hx hb dX7_has_4 rfl (lv_at hl 1 rfl) ?_
    refine lv_aload_n hx hb dX7_has_5 rfl (lv_at hl 0 rfl) ?_
    refine va_get (D := D) (ci := 7) (v := .int (iI (Wi))) (C := RX7) (T := TX7) (N := 10) hx hb hts UX7 hown hK hP 0 rfl rfl 1 (by decide) L18 (fun _ h9 => h9) rfl dX7_has_6 ?_
    refine j_icmp_ge (tgt := 28) hx hb (by omega) dX7_has_9 (by decide) (fun c_9 => ?_) (fun c_9 => ?_)
    · refine lv_iconst (v := iI (0)) hx hb dX7_has_28 rfl ?_
      rw [hQ]; exact jr_zret hx hb hr hlocks jn_0 (jo_i (by unfold inT; first | (rw [decide_eq_true (by omega)]; rfl) | (rw [decide_eq_false (by omega)]; rfl))) dX7_has_29
    · refine lv_iload_n hx hb dX7_has_12 rfl (lv_at hl 2 rfl) ?_
      refine j_if_lt (tgt := 28) hx hb (by omega) dX7_has_13 (by decide) (fun c_13 => ?_) (fun c_13 => ?_)
      · refine lv_iconst (v := iI (0)) hx hb dX7_has_28 rfl ?_
        rw [hQ]; exact jr_zret hx hb hr hlocks jn_0 (jo_i (by unfold inT; first | (rw [decide_eq_true (by omega)]; rfl) | (rw [decide_eq_false (by omega)]; rfl))) dX7_has_29
      · refine lv_iload_n hx hb dX7_has_16 rfl (lv_at hl 2 rfl) ?_
        refine lv_aload_n hx hb dX7_has_17 rfl (lv_at hl 0 rfl) ?_
        refine va_get (D := D) (ci := 7) (v := .int (iI (Hi))) (C := RX7) (T := TX7) (N := 10) hx hb hts UX7 hown hK hP 0 rfl rfl 2 (by decide) L22 (fun _ h9 => h9) rfl dX7_has_18 ?_
        refine j_icmp_ge (tgt := 28) hx hb (by omega) dX7_has_21 (by decide) (fun c_21 => ?_) (fun c_21 => ?_)
        · refine lv_iconst (v := iI (0)) hx hb dX7_has_28 rfl ?_
          rw [hQ]; exact jr_zret hx hb hr hlocks jn_0 (jo_i (by unfold inT; first | (rw [decide_eq_true (by omega)]; rfl) | (rw [decide_eq_false (by omega)]; rfl))) dX7_has_29
        · refine lv_iconst (v := iI (1)) hx hb dX7_has_24 rfl ?_
          refine lv_goto (tgt := 29) hx hb dX7_has_25 (by decide) ?_
          rw [hQ]; exact jr_zret hx hb hr hlocks jn_1 (jo_i (by unfold inT; first | (rw [decide_eq_true (by omega)]; rfl) | (rw [decide_eq_false (by omega)]; rfl))) dX7_has_29
abbrev rmX7_numberOf : Room := { frames := 0, cells := 0, slots := 0, locals := 0 }
set_option maxHeartbeats 4000000 in
set_option maxRecDepth 100000 in
theorem c_X7_numberOf (l : Launch) (D : va_G) (cI cZ : ClassId) (z : jZT) (h0 h1 : Nat) (x y Wi Hi bl sc sd no tu be sp : Int) (g : Int → Int) : jRd l yX7_numberOf wsX7_numberOf rmX7_numberOf [.ref h0, .int (iI (x)), .int (iI (y))] D cI cZ z [(h0, .inr (7, [.ref h1, .int (iI (Wi)), .int (iI (Hi)), .int (iI (bl)), .int (iI (sc)), .int (iI (sd)), .int (iI (no)), .int (iI (tu)), .int (iI (be)), .int (iI (sp))])), (h1, .inl (cI, 256, .inl (aI g)))] (some (.int (iI (Wi * y + x)))) := by
  refine jRd_of (cc := cX7_numberOf) (n := 3) (ret := (some .int)) (by decide) rfl (Nat.le_of_ble_eq_true rfl) ?_
  intro p e s m below meth c A ls args Q hQ F hA hZ hP hK hD hS hl
  obtain ⟨hx, hb, hr, hml, hown, hts, hlocks⟩ := F
  have hown : s.vm.findClass RX7 = some m.cls := hown
  have hl : lv_has ls 3 [(0, .ref h0), (1, .int (iI (x))), (2, .int (iI (y)))] := hl
  have L18 := hts (.fieldLink RX7 18 "TinMouse$Table" "wide" "I") (by decide +kernel)
  have UX7 : ∀ w ∈ wsX70, w ∈ wsX7_numberOf := fun w h => List.mem_cons_of_mem _ (List.mem_append_right _ h)
  refine lv_aload_n hx hb dX7_numberOf_0 rfl (lv_at hl 0 rfl) ?_
  refine va_get (D := D) (ci := 7) (v := .int (iI (Wi))) (C := RX7) (T := TX7) (N := 10) hx hb hts UX7 hown hK hP 0 rfl rfl 1 (by decide) L18 (fun _ h9 => h9) rfl dX7_numberOf_1 ?_
  refine lv_iload_n hx hb dX7_numberOf_4 rfl (lv_at hl 2 rfl) ?_
  refine j_imul hx hb dX7_numberOf_5 ?_
  refine lv_iload_n hx hb dX7_numberOf_6 rfl (lv_at hl 1 rfl) ?_
  refine j_iadd hx hb dX7_numberOf_7 ?_
  rw [hQ]; exact jr_iret hx hb hr hlocks (jo_i (by rfl)) dX7_numberOf_8
abbrev rmX7_kindOf : Room := { frames := 0, cells := 0, slots := 0, locals := 0 }
set_option maxHeartbeats 4000000 in
set_option maxRecDepth 100000 in
theorem c_X7_kindOf (l : Launch) (D : va_G) (cI cZ : ClassId) (z : jZT) (h0 h1 : Nat) (k Wi Hi bl sc sd no tu be sp : Int) (g : Int → Int) (hW : 3 ≤ Wi ∧ Wi ≤ 16) (hH : 3 ≤ Hi ∧ Hi ≤ 16) (hc : -2147483648 ≤ k ∧ k < 2147483648) : jRd l yX7_kindOf wsX7_kindOf rmX7_kindOf [.ref h0, .int (iI (k))] D cI cZ z [(h0, .inr (7, [.ref h1, .int (iI (Wi)), .int (iI (Hi)), .int (iI (bl)), .int (iI (sc)), .int (iI (sd)), .int (iI (no)), .int (iI (tu)), .int (iI (be)), .int (iI (sp))])), (h1, .inl (cI, 256, .inl (aI g)))] (some (.int (iI (kd Wi Hi g k)))) := by
  refine jRd_of (cc := cX7_kindOf) (n := 2) (ret := (some .int)) (by decide) rfl (Nat.le_of_ble_eq_true rfl) ?_
  intro p e s m below meth c A ls args Q hQ F hA hZ hP hK hD hS hl
  obtain ⟨hx, hb, hr, hml, hown, hts, hlocks⟩ := F
  have hown : s.vm.findClass RX7 = some m.cls := hown
  have hl : lv_has ls 2 [(0, .ref h0), (1, .int (iI (k)))] := hl
  have L18 := hts (.fieldLink RX7 18 "TinMouse$Table" "wide" "I") (by decide +kernel)
  have L22 := hts (.fieldLink RX7 22 "TinMouse$Table" "high" "I") (by decide +kernel)
  have L9 := hts (.fieldLink RX7 9 "TinMouse$Table" "kinds" "[I") (by decide +kernel)
  have UX7 : ∀ w ∈ wsX70, w ∈ wsX7_kindOf := fun w h => List.mem_cons_of_mem _ (List.mem_append_right _ h)
  have hwh := wh_rng hW hH
  refine lv_iload_n hx hb dX7_kindOf_0 rfl (lv_at hl 1 rfl) ?_
  refine j_if_lt (tgt := 35) hx hb (by omega) dX7_kindOf_1 (by decide) (fun c_1 => ?_) (fun c_1 => ?_)
  · refine lv_bipush (v := iI (-9)) hx hb dX7_kindOf_35 (by decide) ?_
    rw [hQ]; exact jr_iret hx hb hr hlocks (jo_i (by unfold kd; first | (rw [if_pos (by omega)]; done) | (rw [if_neg (by omega)]; done))) dX7_kindOf_37
  · refine lv_iload_n hx hb dX7_kindOf_4 rfl (lv_at hl 1 rfl) ?_
    refine lv_aload_n hx hb dX7_kindOf_5 rfl (lv_at hl 0 rfl) ?_
    refine va_get (D := D) (ci := 7) (v := .int (iI (Wi))) (C := RX7) (T := TX7) (N := 10) hx hb hts UX7 hown hK hP 0 rfl rfl 1 (by decide) L18 (fun _ h9 => h9) rfl dX7_kindOf_6 ?_
    refine lv_aload_n hx hb dX7_kindOf_9 rfl (lv_at hl 0 rfl) ?_
    refine va_get (D := D) (ci := 7) (v := .int (iI (Hi))) (C := RX7) (T := TX7) (N := 10) hx hb hts UX7 hown hK hP 0 rfl rfl 2 (by decide) L22 (fun _ h9 => h9) rfl dX7_kindOf_10 ?_
    refine j_imul hx hb dX7_kindOf_13 ?_
    refine j_icmp_ge (tgt := 35) hx hb (by omega) dX7_kindOf_14 (by decide) (fun c_14 => ?_) (fun c_14 => ?_)
    · refine lv_bipush (v := iI (-9)) hx hb dX7_kindOf_35 (by decide) ?_
      rw [hQ]; exact jr_iret hx hb hr hlocks (jo_i (by unfold kd; first | (rw [if_pos (by omega)]; done) | (rw [if_neg (by omega)]; done))) dX7_kindOf_37
    · refine lv_iload_n hx hb dX7_kindOf_17 rfl (lv_at hl 1 rfl) ?_
      refine lv_aload_n hx hb dX7_kindOf_18 rfl (lv_at hl 0 rfl) ?_
      refine va_get (D := D) (ci := 7) (v := .ref h1) (C := RX7) (T := TX7) (N := 10) hx hb hts UX7 hown hK hP 0 rfl rfl 0 (by decide) L9 (fun _ h9 => h9) rfl dX7_kindOf_19 ?_
      refine j_alen hx hb hK hP 1 0 rfl rfl dX7_kindOf_22 ?_
      refine j_icmp_ge (tgt := 35) hx hb (by omega) dX7_kindOf_23 (by decide) (fun c_23 => ?_) (fun c_23 => ?_)
      · refine lv_bipush (v := iI (-9)) hx hb dX7_kindOf_35 (by decide) ?_
        rw [hQ]; exact jr_iret hx hb hr hlocks (jo_i (by unfold kd; first | (rw [if_pos (by omega)]; done) | (rw [if_neg (by omega)]; done))) dX7_kindOf_37
      · refine lv_aload_n hx hb dX7_kindOf_26 rfl (lv_at hl 0 rfl) ?_
        refine va_get (D := D) (ci := 7) (v := .ref h1) (C := RX7) (T := TX7) (N := 10) hx hb hts UX7 hown hK hP 0 rfl rfl 0 (by decide) L9 (fun _ h9 => h9) rfl dX7_kindOf_27 ?_
        refine lv_iload_n hx hb dX7_kindOf_30 rfl (lv_at hl 1 rfl) ?_
        refine j_iald hx hb hK hP 1 0 rfl rfl (by omega) dX7_kindOf_31 ?_
        refine lv_goto (tgt := 37) hx hb dX7_kindOf_32 (by decide) ?_
        rw [hQ]; exact jr_iret hx hb hr hlocks (jo_i (by unfold kd; first | (rw [if_pos (by omega)]; done) | (rw [if_neg (by omega)]; done))) dX7_kindOf_37
theorem hsX7_kindOf : yX7_kindOf.cls ≠ "java/lang/invoke/MethodHandle" ∧ yX7_kindOf.cls ≠ "java/lang/invoke/VarHandle" ∧ (parseMethodDescriptor yX7_kindOf.desc).map (fun d => d.parameters.length) = some 1 := by decide +kernel
theorem hvX7_kindOf : yX7_kindOf.cls = RX7 ∧ yX7_kindOf.cls ≠ "java/lang/invoke/MethodHandle" ∧ yX7_kindOf.cls ≠ "java/lang/invoke/VarHandle" ∧ (parseMethodDescriptor yX7_kindOf.desc).map (fun d => d.parameters.length) = some 1 := ⟨rfl, hsX7_kindOf⟩
abbrev rmX7_isWood : Room := { frames := 1, cells := 0, slots := 0, locals := 21 }
set_option maxHeartbeats 4000000 in
set_option maxRecDepth 100000 in
theorem c_X7_isWood (l : Launch) (D : va_G) (cI cZ : ClassId) (z : jZT) (h0 h1 : Nat) (k Wi Hi bl sc sd no tu be sp : Int) (g : Int → Int) (hW : 3 ≤ Wi ∧ Wi ≤ 16) (hH : 3 ≤ Hi ∧ Hi ≤ 16) (hg : ∀ j : Int, 0 ≤ j → j < 256 → 0 ≤ g j ∧ g j ≤ 2) (hc : -2147483648 ≤ k ∧ k < 2147483648) : jRd l yX7_isWood wsX7_isWood rmX7_isWood [.ref h0, .int (iI (k))] D cI cZ z [(h0, .inr (7, [.ref h1, .int (iI (Wi)), .int (iI (Hi)), .int (iI (bl)), .int (iI (sc)), .int (iI (sd)), .int (iI (no)), .int (iI (tu)), .int (iI (be)), .int (iI (sp))])), (h1, .inl (cI, 256, .inl (aI g)))] (some (.int (iI (bI (isWd Wi Hi g k))))) := by
  refine jRd_of (cc := cX7_isWood) (n := 3) (ret := (some .boolean)) (by decide) rfl (Nat.le_of_ble_eq_true rfl) ?_
  intro p e s m below meth c A ls args Q hQ F hA hZ hP hK hD hS hl
  obtain ⟨hx, hb, hr, hml, hown, hts, hlocks⟩ := F
  have hown : s.vm.findClass RX7 = some m.cls := hown
  have hl : lv_has ls 3 [(0, .ref h0), (1, .int (iI (k)))] := hl
  have hkr := kd_rng (W := Wi) (H := Hi) hg k
  refine lv_aload_n hx hb dX7_isWood_0 rfl (lv_at hl 0 rfl) ?_
  refine lv_iload_n hx hb dX7_isWood_1 rfl (lv_at hl 1 rfl) ?_
  refine j_rd (va_runV (As := [.int (iI (k))]) (rest := []) ⟨hx, hb, hml, hown, hts⟩ (c_X7_kindOf l D cI cZ z h0 h1 k Wi Hi bl sc sd no tu be sp g (by first | assumption | omega) (by first | assumption | omega) (by first | assumption | omega) s.heap.size) (cwV 1 hts gX7_isWood_X7_kindOf rfl rfl rfl hvX7_kindOf ⟨Nat.le_of_ble_eq_true rfl, Nat.le_of_ble_eq_true rfl⟩) (j_preV hP hD hK hS hZ hA [0, 1] rfl rfl 0 rfl rfl) rfl rfl hl.1 rfl (lv_room (Nat.le_of_ble_eq_true rfl)) dX7_isWood_2 ⟨Nat.zero_le _, Nat.zero_le _⟩) ?_
  refine lv_istore_n (lv' := [(2, .int (iI (kd Wi Hi g k))), (0, .ref h0), (1, .int (iI (k)))]) hx hb dX7_isWood_5 rfl hl (by decide) rfl (fun ls hl => ?_)
  refine lv_iload_n hx hb dX7_isWood_6 rfl (lv_at hl 0 rfl) ?_
  refine j_if_eq (tgt := 15) hx hb (by omega) dX7_isWood_7 (by decide) (fun c_7 => ?_) (fun c_7 => ?_)
  · refine lv_iconst (v := iI (1)) hx hb dX7_isWood_15 rfl ?_
    refine lv_goto (tgt := 20) hx hb dX7_isWood_16 (by decide) ?_
    rw [hQ]; exact jr_zret hx hb hr hlocks jn_1 (jo_i (by unfold isWd; first | (rw [decide_eq_true (by omega)]; rfl) | (rw [decide_eq_false (by omega)]; rfl))) dX7_isWood_20
  · refine lv_iload_n hx hb dX7_isWood_10 rfl (lv_at hl 0 rfl) ?_
    refine lv_iconst (v := iI (2)) hx hb dX7_isWood_11 rfl ?_
    refine j_icmp_ne (tgt := 19) hx hb (by omega) dX7_isWood_12 (by decide) (fun c_12 => ?_) (fun c_12 => ?_)
    · refine lv_iconst (v := iI (0)) hx hb dX7_isWood_19 rfl ?_
      rw [hQ]; exact jr_zret hx hb hr hlocks jn_0 (jo_i (by unfold isWd; first | (rw [decide_eq_true (by omega)]; rfl) | (rw [decide_eq_false (by omega)]; rfl))) dX7_isWood_20
    · refine lv_iconst (v := iI (1)) hx hb dX7_isWood_15 rfl ?_
      refine lv_goto (tgt := 20) hx hb dX7_isWood_16 (by decide) ?_
      rw [hQ]; exact jr_zret hx hb hr hlocks jn_1 (jo_i (by unfold isWd; first | (rw [decide_eq_true (by omega)]; rfl) | (rw [decide_eq_false (by omega)]; rfl))) dX7_isWood_20
abbrev rmX7_hasBook : Room := { frames := 1, cells := 0, slots := 0, locals := 21 }
set_option maxHeartbeats 4000000 in
set_option maxRecDepth 100000 in
theorem c_X7_hasBook (l : Launch) (D : va_G) (cI cZ : ClassId) (z : jZT) (h0 h1 : Nat) (k Wi Hi bl sc sd no tu be sp : Int) (g : Int → Int) (hW : 3 ≤ Wi ∧ Wi ≤ 16) (hH : 3 ≤ Hi ∧ Hi ≤ 16) (hg : ∀ j : Int, 0 ≤ j → j < 256 → 0 ≤ g j ∧ g j ≤ 2) (hc : -2147483648 ≤ k ∧ k < 2147483648) : jRd l yX7_hasBook wsX7_hasBook rmX7_hasBook [.ref h0, .int (iI (k))] D cI cZ z [(h0, .inr (7, [.ref h1, .int (iI (Wi)), .int (iI (Hi)), .int (iI (bl)), .int (iI (sc)), .int (iI (sd)), .int (iI (no)), .int (iI (tu)), .int (iI (be)), .int (iI (sp))])), (h1, .inl (cI, 256, .inl (aI g)))] (some (.int (iI (bI (isBk Wi Hi g k))))) := by
  refine jRd_of (cc := cX7_hasBook) (n := 2) (ret := (some .boolean)) (by decide) rfl (Nat.le_of_ble_eq_true rfl) ?_
  intro p e s m below meth c A ls args Q hQ F hA hZ hP hK hD hS hl
  obtain ⟨hx, hb, hr, hml, hown, hts, hlocks⟩ := F
  have hown : s.vm.findClass RX7 = some m.cls := hown
  have hl : lv_has ls 2 [(0, .ref h0), (1, .int (iI (k)))] := hl
  have hkr := kd_rng (W := Wi) (H := Hi) hg k
  refine lv_aload_n hx hb dX7_hasBook_0 rfl (lv_at hl 0 rfl) ?_
  refine lv_iload_n hx hb dX7_hasBook_1 rfl (lv_at hl 1 rfl) ?_
  refine j_rd (va_runV (As := [.int (iI (k))]) (rest := []) ⟨hx, hb, hml, hown, hts⟩ (c_X7_kindOf l D cI cZ z h0 h1 k Wi Hi bl sc sd no tu be sp g (by first | assumption | omega) (by first | assumption | omega) (by first | assumption | omega) s.heap.size) (cwV 1 hts gX7_hasBook_X7_kindOf rfl rfl rfl hvX7_kindOf ⟨Nat.le_of_ble_eq_true rfl, Nat.le_of_ble_eq_true rfl⟩) (j_preV hP hD hK hS hZ hA [0, 1] rfl rfl 0 rfl rfl) rfl rfl hl.1 rfl (lv_room (Nat.le_of_ble_eq_true rfl)) dX7_hasBook_2 ⟨Nat.zero_le _, Nat.zero_le _⟩) ?_
  refine lv_iconst (v := iI (2)) hx hb dX7_hasBook_5 rfl ?_
  refine j_icmp_ne (tgt := 13) hx hb (by omega) dX7_hasBook_6 (by decide) (fun c_6 => ?_) (fun c_6 => ?_)
  · refine lv_iconst (v := iI (0)) hx hb dX7_hasBook_13 rfl ?_
    rw [hQ]; exact jr_zret hx hb hr hlocks jn_0 (jo_i (by unfold isBk; first | (rw [decide_eq_true (by omega)]; rfl) | (rw [decide_eq_false (by omega)]; rfl))) dX7_hasBook_14
  · refine lv_iconst (v := iI (1)) hx hb dX7_hasBook_9 rfl ?_
    refine lv_goto (tgt := 14) hx hb dX7_hasBook_10 (by decide) ?_
    rw [hQ]; exact jr_zret hx hb hr hlocks jn_1 (jo_i (by unfold isBk; first | (rw [decide_eq_true (by omega)]; rfl) | (rw [decide_eq_false (by omega)]; rfl))) dX7_hasBook_14
theorem hsX10_at : yX10_at.cls ≠ "java/lang/invoke/MethodHandle" ∧ yX10_at.cls ≠ "java/lang/invoke/VarHandle" ∧ (parseMethodDescriptor yX10_at.desc).map (fun d => d.parameters.length) = some 2 := by decide +kernel
theorem hvX10_at : yX10_at.cls = RX10 ∧ yX10_at.cls ≠ "java/lang/invoke/MethodHandle" ∧ yX10_at.cls ≠ "java/lang/invoke/VarHandle" ∧ (parseMethodDescriptor yX10_at.desc).map (fun d => d.parameters.length) = some 2 := ⟨rfl, hsX10_at⟩
theorem hsX7_has : yX7_has.cls ≠ "java/lang/invoke/MethodHandle" ∧ yX7_has.cls ≠ "java/lang/invoke/VarHandle" ∧ (parseMethodDescriptor yX7_has.desc).map (fun d => d.parameters.length) = some 2 := by decide +kernel
theorem hvX7_has : yX7_has.cls = RX7 ∧ yX7_has.cls ≠ "java/lang/invoke/MethodHandle" ∧ yX7_has.cls ≠ "java/lang/invoke/VarHandle" ∧ (parseMethodDescriptor yX7_has.desc).map (fun d => d.parameters.length) = some 2 := ⟨rfl, hsX7_has⟩
theorem hsX7_numberOf : yX7_numberOf.cls ≠ "java/lang/invoke/MethodHandle" ∧ yX7_numberOf.cls ≠ "java/lang/invoke/VarHandle" ∧ (parseMethodDescriptor yX7_numberOf.desc).map (fun d => d.parameters.length) = some 2 := by decide +kernel
theorem hvX7_numberOf : yX7_numberOf.cls = RX7 ∧ yX7_numberOf.cls ≠ "java/lang/invoke/MethodHandle" ∧ yX7_numberOf.cls ≠ "java/lang/invoke/VarHandle" ∧ (parseMethodDescriptor yX7_numberOf.desc).map (fun d => d.parameters.length) = some 2 := ⟨rfl, hsX7_numberOf⟩
abbrev rmX7_off : Room := { frames := 1, cells := 0, slots := 0, locals := 22 }
set_option maxHeartbeats 4000000 in
set_option maxRecDepth 100000 in
theorem c_X7_off (l : Launch) (D : va_G) (cI cZ : ClassId) (z : jZT) (h0 h1 : Nat) (k d far Wi Hi bl sc sd no tu be sp : Int) (g : Int → Int) (hW : 3 ≤ Wi ∧ Wi ≤ 16) (hH : 3 ≤ Hi ∧ Hi ≤ 16) (hc : -2147483648 ≤ k ∧ k < 2147483648) (hd : -2147483648 ≤ d ∧ d < 2147483648) (hfar : 0 ≤ far ∧ far ≤ 3) : jRd l yX7_off wsX7_off rmX7_off [.ref h0, .int (iI (k)), .int (iI (d)), .int (iI (far))] D cI cZ z [(h0, .inr (7, [.ref h1, .int (iI (Wi)), .int (iI (Hi)), .int (iI (bl)), .int (iI (sc)), .int (iI (sd)), .int (iI (no)), .int (iI (tu)), .int (iI (be)), .int (iI (sp))])), (h1, .inl (cI, 256, .inl (aI g)))] (some (.int (iI (offI Wi Hi k d far)))) := by
  refine jRd_of (cc := cX7_off) (n := 6) (ret := (some .int)) (by decide) rfl (Nat.le_of_ble_eq_true rfl) ?_
  intro p e s m below meth c A ls args Q hQ F hA hZ hP hK hD hS hl
  obtain ⟨hx, hb, hr, hml, hown, hts, hlocks⟩ := F
  have hown : s.vm.findClass RX7 = some m.cls := hown
  have hl : lv_has ls 6 [(0, .ref h0), (1, .int (iI (k))), (2, .int (iI (d))), (3, .int (iI (far)))] := hl
  have L18 := hts (.fieldLink RX7 18 "TinMouse$Table" "wide" "I") (by decide +kernel)
  have IRX10 := hts (.initialized RX10) (by decide +kernel)
  have STyX10_at := hts (.static yX10_at) (by decide +kernel)
  have UX7 : ∀ w ∈ wsX70, w ∈ wsX7_off := fun w h => List.mem_cons_of_mem _ (List.mem_append_right _ h)
  have hm1 := mul_rng hfar (rx_rng d)
  have hm2 := mul_rng hfar (ry_rng d)
  refine lv_iload_n hx hb dX7_off_0 rfl (lv_at hl 1 rfl) ?_
  refine j_if_lt (tgt := 12) hx hb (by omega) dX7_off_1 (by decide) (fun c_1 => ?_) (fun c_1 => ?_)
  · refine lv_bipush (v := iI (-9)) hx hb dX7_off_12 (by decide) ?_
    rw [hQ]; exact jr_iret hx hb hr hlocks (jo_i (by unfold offI; first | (rw [if_pos (by omega)]; done) | (rw [if_neg (by omega)]; first | (rw [if_pos (by assumption)]; done) | (rw [if_neg (by simp [*])]; done)))) dX7_off_14
  · refine lv_aload_n hx hb dX7_off_4 rfl (lv_at hl 0 rfl) ?_
    refine va_get (D := D) (ci := 7) (v := .int (iI (Wi))) (C := RX7) (T := TX7) (N := 10) hx hb hts UX7 hown hK hP 0 rfl rfl 1 (by decide) L18 (fun _ h9 => h9) rfl dX7_off_5 ?_
    refine lv_iconst (v := iI (1)) hx hb dX7_off_8 rfl ?_
    refine j_icmp_ge (tgt := 15) hx hb (by omega) dX7_off_9 (by decide) (fun c_9 => ?_) (fun c_9 => ?_)
    · have hq1 := Int.emod_nonneg k (show Wi ≠ 0 by omega)
      have hq2 := Int.emod_lt_of_pos k (show 0 < Wi by omega)
      have hq3 := Int.ediv_nonneg (a := k) (b := Wi) (by omega) (by omega)
      have hq4 : k / Wi < 1073741824 := Int.ediv_lt_of_lt_mul (by omega) (by omega)
      refine lv_iload_n hx hb dX7_off_15 rfl (lv_at hl 1 rfl) ?_
      refine lv_aload_n hx hb dX7_off_16 rfl (lv_at hl 0 rfl) ?_
      refine va_get (D := D) (ci := 7) (v := .int (iI (Wi))) (C := RX7) (T := TX7) (N := 10) hx hb hts UX7 hown hK hP 0 rfl rfl 1 (by decide) L18 (fun _ h9 => h9) rfl dX7_off_17 ?_
      refine j_irem hx hb (by omega) dX7_off_20 ?_
      refine lv_iload_n hx hb dX7_off_21 rfl (lv_at hl 3 rfl) ?_
      refine va_getsN (v := .ref (z.1)) hx hb hZ.1.1 hS hown (va_Nw.use rfl (hZ.2.2.2.2.1 _ (List.mem_of_getElem? (i := 0) rfl))) (fun _ h9 => h9) dX7_off_22 ?_
      refine lv_iload_n hx hb dX7_off_25 rfl (lv_at hl 2 rfl) ?_
      refine j_rd (va_runSN (As := [.ref (z.1), .int (iI (d))]) (rest := [.int (iI (far)), .int (iI (k % Wi))]) ⟨hx, hb, hml, hown, hts⟩ (c_X10_atR l D cI cZ z d (by first | assumption | omega) s.heap.size) ⟨va_cnB 2 hts gX7_off_X10_at_n65 rfl rfl rfl (hZ.2.2.2.2.2 _ (List.mem_of_getElem? (i := 11) rfl)) IRX10 hsX10_at ⟨Nat.le_of_ble_eq_true rfl, Nat.le_of_ble_eq_true rfl⟩, STyX10_at, trivial⟩ (j_preS hP hD hK hS hZ hA [] rfl rfl) rfl rfl hl.1 rfl (lv_room (Nat.le_of_ble_eq_true rfl)) dX7_off_26 ⟨Nat.zero_le _, Nat.zero_le _⟩) ?_
      refine j_imul hx hb dX7_off_29 ?_
      refine j_iadd hx hb dX7_off_30 ?_
      refine lv_istore (lv' := [(4, .int (iI ((k % Wi) + (far * (rx d))))), (0, .ref h0), (1, .int (iI (k))), (2, .int (iI (d))), (3, .int (iI (far)))]) hx hb dX7_off_31 hl (by decide) rfl (fun ls hl => ?_)
      refine lv_iload_n hx hb dX7_off_33 rfl (lv_at hl 2 rfl) ?_
      refine lv_aload_n hx hb dX7_off_34 rfl (lv_at hl 1 rfl) ?_
      refine va_get (D := D) (ci := 7) (v := .int (iI (Wi))) (C := RX7) (T := TX7) (N := 10) hx hb hts UX7 hown hK hP 0 rfl rfl 1 (by decide) L18 (fun _ h9 => h9) rfl dX7_off_35 ?_
      refine j_idiv hx hb (by omega) dX7_off_38 ?_
      refine lv_iload_n hx hb dX7_off_39 rfl (lv_at hl 4 rfl) ?_
      refine va_getsN (v := .ref (z.2.1)) hx hb hZ.2.1.1 hS hown (va_Nw.use rfl (hZ.2.2.2.2.1 _ (List.mem_of_getElem? (i := 1) rfl))) (fun _ h9 => h9) dX7_off_40 ?_
      refine lv_iload_n hx hb dX7_off_43 rfl (lv_at hl 3 rfl) ?_
      refine j_rd (va_runSN (As := [.ref (z.2.1), .int (iI (d))]) (rest := [.int (iI (far)), .int (iI (k / Wi))]) ⟨hx, hb, hml, hown, hts⟩ (c_X10_atD l D cI cZ z d (by first | assumption | omega) s.heap.size) ⟨va_cnB 2 hts gX7_off_X10_at_n65 rfl rfl rfl (hZ.2.2.2.2.2 _ (List.mem_of_getElem? (i := 11) rfl)) IRX10 hsX10_at ⟨Nat.le_of_ble_eq_true rfl, Nat.le_of_ble_eq_true rfl⟩, STyX10_at, trivial⟩ (j_preS hP hD hK hS hZ hA [] rfl rfl) rfl rfl hl.1 rfl (lv_room (Nat.le_of_ble_eq_true rfl)) dX7_off_44 ⟨Nat.zero_le _, Nat.zero_le _⟩) ?_
      refine j_imul hx hb dX7_off_47 ?_
      refine j_iadd hx hb dX7_off_48 ?_
      refine lv_istore (lv' := [(5, .int (iI ((k / Wi) + (far * (ry d))))), (4, .int (iI ((k % Wi) + (far * (rx d))))), (0, .ref h0), (1, .int (iI (k))), (2, .int (iI (d))), (3, .int (iI (far)))]) hx hb dX7_off_49 hl (by decide) rfl (fun ls hl => ?_)
      refine lv_aload_n hx hb dX7_off_51 rfl (lv_at hl 2 rfl) ?_
      refine lv_iload hx hb dX7_off_52 (lv_at hl 1 rfl) ?_
      refine lv_iload hx hb dX7_off_54 (lv_at hl 0 rfl) ?_
      refine j_rd (va_runV (As := [.int (iI ((k % Wi) + (far * (rx d)))), .int (iI ((k / Wi) + (far * (ry d))))]) (rest := []) ⟨hx, hb, hml, hown, hts⟩ (c_X7_has l D cI cZ z h0 h1 ((k % Wi) + (far * (rx d))) ((k / Wi) + (far * (ry d))) Wi Hi bl sc sd no tu be sp g (by first | assumption | omega) (by first | assumption | omega) (by first | assumption | omega) (by first | assumption | omega) s.heap.size) (cwV 2 hts gX7_off_X7_has rfl rfl rfl hvX7_has ⟨Nat.le_of_ble_eq_true rfl, Nat.le_of_ble_eq_true rfl⟩) (j_preV hP hD hK hS hZ hA [0, 1] rfl rfl 0 rfl rfl) rfl rfl hl.1 rfl (lv_room (Nat.le_of_ble_eq_true rfl)) dX7_off_56 ⟨Nat.zero_le _, Nat.zero_le _⟩) ?_
      refine j_ifeq_b (tgt := 73) hx hb dX7_off_59 (by decide) (fun c_59 => ?_) (fun c_59 => ?_)
      · refine lv_bipush (v := iI (-9)) hx hb dX7_off_73 (by decide) ?_
        rw [hQ]; exact jr_iret hx hb hr hlocks (jo_i (by unfold offI; first | (rw [if_pos (by omega)]; done) | (rw [if_neg (by omega)]; first | (rw [if_pos (by assumption)]; done) | (rw [if_neg (by simp [*])]; done)))) dX7_off_75
      · refine lv_aload_n hx hb dX7_off_62 rfl (lv_at hl 2 rfl) ?_
        refine lv_iload hx hb dX7_off_63 (lv_at hl 1 rfl) ?_
        refine lv_iload hx hb dX7_off_65 (lv_at hl 0 rfl) ?_
        refine j_rd (va_runV (As := [.int (iI ((k % Wi) + (far * (rx d)))), .int (iI ((k / Wi) + (far * (ry d))))]) (rest := []) ⟨hx, hb, hml, hown, hts⟩ (c_X7_numberOf l D cI cZ z h0 h1 ((k % Wi) + (far * (rx d))) ((k / Wi) + (far * (ry d))) Wi Hi bl sc sd no tu be sp g  s.heap.size) (cwV 2 hts gX7_off_X7_numberOf rfl rfl rfl hvX7_numberOf ⟨Nat.le_of_ble_eq_true rfl, Nat.le_of_ble_eq_true rfl⟩) (j_preV hP hD hK hS hZ hA [0, 1] rfl rfl 0 rfl rfl) rfl rfl hl.1 rfl (lv_room (Nat.le_of_ble_eq_true rfl)) dX7_off_67 ⟨Nat.zero_le _, Nat.zero_le _⟩) ?_
        refine lv_goto (tgt := 75) hx hb dX7_off_70 (by decide) ?_
        rw [hQ]; exact jr_iret hx hb hr hlocks (jo_i (by unfold offI; first | (rw [if_pos (by omega)]; done) | (rw [if_neg (by omega)]; first | (rw [if_pos (by assumption)]; done) | (rw [if_neg (by simp [*])]; done)))) dX7_off_75
    · refine lv_bipush (v := iI (-9)) hx hb dX7_off_12 (by decide) ?_
      rw [hQ]; exact jr_iret hx hb hr hlocks (jo_i (by unfold offI; first | (rw [if_pos (by omega)]; done) | (rw [if_neg (by omega)]; first | (rw [if_pos (by assumption)]; done) | (rw [if_neg (by simp [*])]; done)))) dX7_off_14
theorem hsX7_off : yX7_off.cls ≠ "java/lang/invoke/MethodHandle" ∧ yX7_off.cls ≠ "java/lang/invoke/VarHandle" ∧ (parseMethodDescriptor yX7_off.desc).map (fun d => d.parameters.length) = some 3 := by decide +kernel
theorem hvX7_off : yX7_off.cls = RX7 ∧ yX7_off.cls ≠ "java/lang/invoke/MethodHandle" ∧ yX7_off.cls ≠ "java/lang/invoke/VarHandle" ∧ (parseMethodDescriptor yX7_off.desc).map (fun d => d.parameters.length) = some 3 := ⟨rfl, hsX7_off⟩
theorem hsX7_hasBook : yX7_hasBook.cls ≠ "java/lang/invoke/MethodHandle" ∧ yX7_hasBook.cls ≠ "java/lang/invoke/VarHandle" ∧ (parseMethodDescriptor yX7_hasBook.desc).map (fun d => d.parameters.length) = some 1 := by decide +kernel
theorem hvX7_hasBook : yX7_hasBook.cls = RX7 ∧ yX7_hasBook.cls ≠ "java/lang/invoke/MethodHandle" ∧ yX7_hasBook.cls ≠ "java/lang/invoke/VarHandle" ∧ (parseMethodDescriptor yX7_hasBook.desc).map (fun d => d.parameters.length) = some 1 := ⟨rfl, hsX7_hasBook⟩
theorem hsX7_isWood : yX7_isWood.cls ≠ "java/lang/invoke/MethodHandle" ∧ yX7_isWood.cls ≠ "java/lang/invoke/VarHandle" ∧ (parseMethodDescriptor yX7_isWood.desc).map (fun d => d.parameters.length) = some 1 := by decide +kernel
theorem hvX7_isWood : yX7_isWood.cls = RX7 ∧ yX7_isWood.cls ≠ "java/lang/invoke/MethodHandle" ∧ yX7_isWood.cls ≠ "java/lang/invoke/VarHandle" ∧ (parseMethodDescriptor yX7_isWood.desc).map (fun d => d.parameters.length) = some 1 := ⟨rfl, hsX7_isWood⟩
abbrev rmX7_turnsAt : Room := { frames := 2, cells := 0, slots := 0, locals := 47 }
set_option maxHeartbeats 4000000 in
set_option maxRecDepth 100000 in
theorem c_X7_turnsAt (l : Launch) (D : va_G) (cI cZ : ClassId) (z : jZT) (h0 h1 : Nat) (k d far Wi Hi bl sc sd no tu be sp : Int) (g : Int → Int) (hW : 3 ≤ Wi ∧ Wi ≤ 16) (hH : 3 ≤ Hi ∧ Hi ≤ 16) (hg : ∀ j : Int, 0 ≤ j → j < 256 → 0 ≤ g j ∧ g j ≤ 2) (hc : -2147483648 ≤ k ∧ k < 2147483648) (hd : -2147483648 ≤ d ∧ d < 2147483648) (hfar : 0 ≤ far ∧ far ≤ 3) : jRd l yX7_turnsAt wsX7_turnsAt rmX7_turnsAt [.ref h0, .int (iI (k)), .int (iI (d)), .int (iI (far))] D cI cZ z [(h0, .inr (7, [.ref h1, .int (iI (Wi)), .int (iI (Hi)), .int (iI (bl)), .int (iI (sc)), .int (iI (sd)), .int (iI (no)), .int (iI (tu)), .int (iI (be)), .int (iI (sp))])), (h1, .inl (cI, 256, .inl (aI g)))] (some (.int (iI (bI (trn Wi Hi g k d far))))) := by
  refine jRd_of (cc := cX7_turnsAt) (n := 4) (ret := (some .boolean)) (by decide) rfl (Nat.le_of_ble_eq_true rfl) ?_
  intro p e s m below meth c A ls args Q hQ F hA hZ hP hK hD hS hl
  obtain ⟨hx, hb, hr, hml, hown, hts, hlocks⟩ := F
  have hown : s.vm.findClass RX7 = some m.cls := hown
  have hl : lv_has ls 4 [(0, .ref h0), (1, .int (iI (k))), (2, .int (iI (d))), (3, .int (iI (far)))] := hl
  have hwh := wh_rng hW hH
  have ho1 := offI_rng hW hH k d 1
  have ho2 := offI_rng hW hH k d far
  refine lv_aload_n hx hb dX7_turnsAt_0 rfl (lv_at hl 0 rfl) ?_
  refine lv_aload_n hx hb dX7_turnsAt_1 rfl (lv_at hl 0 rfl) ?_
  refine lv_iload_n hx hb dX7_turnsAt_2 rfl (lv_at hl 1 rfl) ?_
  refine lv_iload_n hx hb dX7_turnsAt_3 rfl (lv_at hl 2 rfl) ?_
  refine lv_iconst (v := iI (1)) hx hb dX7_turnsAt_4 rfl ?_
  refine j_rd (va_runV (As := [.int (iI (k)), .int (iI (d)), .int (iI (1))]) (rest := [.ref h0]) ⟨hx, hb, hml, hown, hts⟩ (c_X7_off l D cI cZ z h0 h1 k d 1 Wi Hi bl sc sd no tu be sp g (by first | assumption | omega) (by first | assumption | omega) (by first | assumption | omega) (by first | assumption | omega) (by first | assumption | omega) s.heap.size) (cwV 3 hts gX7_turnsAt_X7_off rfl rfl rfl hvX7_off ⟨Nat.le_of_ble_eq_true rfl, Nat.le_of_ble_eq_true rfl⟩) (j_preV hP hD hK hS hZ hA [0, 1] rfl rfl 0 rfl rfl) rfl rfl hl.1 rfl (lv_room (Nat.le_of_ble_eq_true rfl)) dX7_turnsAt_5 ⟨Nat.zero_le _, Nat.zero_le _⟩) ?_
  refine j_rd (va_runV (As := [.int (iI (offI Wi Hi k d 1))]) (rest := []) ⟨hx, hb, hml, hown, hts⟩ (c_X7_hasBook l D cI cZ z h0 h1 (offI Wi Hi k d 1) Wi Hi bl sc sd no tu be sp g (by first | assumption | omega) (by first | assumption | omega) (by first | assumption | omega) (by first | assumption | omega) s.heap.size) (cwV 1 hts gX7_turnsAt_X7_hasBook rfl rfl rfl hvX7_hasBook ⟨Nat.le_of_ble_eq_true rfl, Nat.le_of_ble_eq_true rfl⟩) (j_preV hP hD hK hS hZ hA [0, 1] rfl rfl 0 rfl rfl) rfl rfl hl.1 rfl (lv_room (Nat.le_of_ble_eq_true rfl)) dX7_turnsAt_8 ⟨Nat.zero_le _, Nat.zero_le _⟩) ?_
  refine j_ifne_b (tgt := 28) hx hb dX7_turnsAt_11 (by decide) (fun c_11 => ?_) (fun c_11 => ?_)
  · refine lv_iconst (v := iI (1)) hx hb dX7_turnsAt_28 rfl ?_
    refine lv_goto (tgt := 33) hx hb dX7_turnsAt_29 (by decide) ?_
    rw [hQ]; exact jr_zret hx hb hr hlocks jn_1 (jo_i (by unfold trn; simp [*, bI])) dX7_turnsAt_33
  · refine lv_aload_n hx hb dX7_turnsAt_14 rfl (lv_at hl 0 rfl) ?_
    refine lv_aload_n hx hb dX7_turnsAt_15 rfl (lv_at hl 0 rfl) ?_
    refine lv_iload_n hx hb dX7_turnsAt_16 rfl (lv_at hl 1 rfl) ?_
    refine lv_iload_n hx hb dX7_turnsAt_17 rfl (lv_at hl 2 rfl) ?_
    refine lv_iload_n hx hb dX7_turnsAt_18 rfl (lv_at hl 3 rfl) ?_
    refine j_rd (va_runV (As := [.int (iI (k)), .int (iI (d)), .int (iI (far))]) (rest := [.ref h0]) ⟨hx, hb, hml, hown, hts⟩ (c_X7_off l D cI cZ z h0 h1 k d far Wi Hi bl sc sd no tu be sp g (by first | assumption | omega) (by first | assumption | omega) (by first | assumption | omega) (by first | assumption | omega) (by first | assumption | omega) s.heap.size) (cwV 3 hts gX7_turnsAt_X7_off rfl rfl rfl hvX7_off ⟨Nat.le_of_ble_eq_true rfl, Nat.le_of_ble_eq_true rfl⟩) (j_preV hP hD hK hS hZ hA [0, 1] rfl rfl 0 rfl rfl) rfl rfl hl.1 rfl (lv_room (Nat.le_of_ble_eq_true rfl)) dX7_turnsAt_19 ⟨Nat.zero_le _, Nat.zero_le _⟩) ?_
    refine j_rd (va_runV (As := [.int (iI (offI Wi Hi k d far))]) (rest := []) ⟨hx, hb, hml, hown, hts⟩ (c_X7_isWood l D cI cZ z h0 h1 (offI Wi Hi k d far) Wi Hi bl sc sd no tu be sp g (by first | assumption | omega) (by first | assumption | omega) (by first | assumption | omega) (by first | assumption | omega) s.heap.size) (cwV 1 hts gX7_turnsAt_X7_isWood rfl rfl rfl hvX7_isWood ⟨Nat.le_of_ble_eq_true rfl, Nat.le_of_ble_eq_true rfl⟩) (j_preV hP hD hK hS hZ hA [0, 1] rfl rfl 0 rfl rfl) rfl rfl hl.1 rfl (lv_room (Nat.le_of_ble_eq_true rfl)) dX7_turnsAt_22 ⟨Nat.zero_le _, Nat.zero_le _⟩) ?_
    refine j_ifne_b (tgt := 32) hx hb dX7_turnsAt_25 (by decide) (fun c_25 => ?_) (fun c_25 => ?_)
    · refine lv_iconst (v := iI (0)) hx hb dX7_turnsAt_32 rfl ?_
      rw [hQ]; exact jr_zret hx hb hr hlocks jn_0 (jo_i (by unfold trn; simp [*, bI])) dX7_turnsAt_33
    · refine lv_iconst (v := iI (1)) hx hb dX7_turnsAt_28 rfl ?_
      refine lv_goto (tgt := 33) hx hb dX7_turnsAt_29 (by decide) ?_
      rw [hQ]; exact jr_zret hx hb hr hlocks jn_1 (jo_i (by unfold trn; simp [*, bI])) dX7_turnsAt_33
