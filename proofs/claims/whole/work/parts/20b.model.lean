abbrev rmX11_in : Room := { frames := 0, cells := 0, slots := 0, locals := 0 }
set_option maxHeartbeats 4000000 in
set_option maxRecDepth 100000 in
theorem c_X11_in (l : Launch) (D : va_G) (cI cZ : ClassId) (z : jZT) (v a9 b9 : Int) (hv : -2147483648 ≤ v ∧ v < 2147483648) (ha : -2147483648 ≤ a9 ∧ a9 < 2147483648) (hb9 : -2147483648 ≤ b9 ∧ b9 < 2147483648) : jRd l yX11_in wsX11_in rmX11_in [.int (iI (v)), .int (iI (a9)), .int (iI (b9))] D cI cZ z [] (some (.int (iI (bI (decide (a9 ≤ v ∧ v ≤ b9)))))) := by
  refine jRd_of (cc := cX11_in) (n := 3) (ret := (some .boolean)) (by decide) rfl (Nat.le_of_ble_eq_true rfl) ?_
  intro p e s m below meth c A ls args Q hQ F hA hZ hP hK hD hS hl
  obtain ⟨hx, hb, hr, hml, hown, hts, hlocks⟩ := F
  have hown : s.vm.findClass RX11 = some m.cls := hown
  have hl : lv_has ls 3 [(0, .int (iI (v))), (1, .int (iI (a9))), (2, .int (iI (b9)))] := hl
  refine lv_iload_n hx hb dX11_in_0 rfl (lv_at hl 0 rfl) ?_
  refine lv_iload_n hx hb dX11_in_1 rfl (lv_at hl 1 rfl) ?_
  refine j_icmp_lt (tgt := 14) hx hb (by omega) dX11_in_2 (by decide) (fun c_2 => ?_) (fun c_2 => ?_)
  · refine lv_iconst (v := iI (0)) hx hb dX11_in_14 rfl ?_
    rw [hQ]; exact jr_zret hx hb hr hlocks jn_0 (jo_i (by first | (rw [decide_eq_true (by omega)]; rfl) | (rw [decide_eq_false (by omega)]; rfl))) dX11_in_15
  · refine lv_iload_n hx hb dX11_in_5 rfl (lv_at hl 0 rfl) ?_
    refine lv_iload_n hx hb dX11_in_6 rfl (lv_at hl 2 rfl) ?_
    refine j_icmp_gt (tgt := 14) hx hb (by omega) dX11_in_7 (by decide) (fun c_7 => ?_) (fun c_7 => ?_)
    · refine lv_iconst (v := iI (0)) hx hb dX11_in_14 rfl ?_
      rw [hQ]; exact jr_zret hx hb hr hlocks jn_0 (jo_i (by first | (rw [decide_eq_true (by omega)]; rfl) | (rw [decide_eq_false (by omega)]; rfl))) dX11_in_15
    · refine lv_iconst (v := iI (1)) hx hb dX11_in_10 rfl ?_
      refine lv_goto (tgt := 15) hx hb dX11_in_11 (by decide) ?_
      rw [hQ]; exact jr_zret hx hb hr hlocks jn_1 (jo_i (by first | (rw [decide_eq_true (by omega)]; rfl) | (rw [decide_eq_false (by omega)]; rfl))) dX11_in_15
abbrev rmX11_aside : Room := { frames := 0, cells := 0, slots := 0, locals := 0 }
set_option maxHeartbeats 4000000 in
set_option maxRecDepth 100000 in
theorem c_X11_aside (l : Launch) (D : va_G) (cI cZ : ClassId) (z : jZT) (f9 : Int) : jRd l yX11_aside wsX11_aside rmX11_aside [.int (iI (f9))] D cI cZ z [] (some (.int (iI (asX f9)))) := by
  refine jRd_of (cc := cX11_aside) (n := 2) (ret := (some .int)) (by decide) rfl (Nat.le_of_ble_eq_true rfl) ?_
  intro p e s m below meth c A ls args Q hQ F hA hZ hP hK hD hS hl
  obtain ⟨hx, hb, hr, hml, hown, hts, hlocks⟩ := F
  have hown : s.vm.findClass RX11 = some m.cls := hown
  have hl : lv_has ls 2 [(0, .int (iI (f9)))] := hl
  refine lv_iload_n hx hb dX11_aside_0 rfl (lv_at hl 0 rfl) ?_
  refine lv_bipush (v := iI (7)) hx hb dX11_aside_1 (by decide) ?_
  refine lv_iand hx hb dX11_aside_3 ?_
  rw [iand7]
  refine lv_istore_n (lv' := [(1, .int (iI (f9 % 8))), (0, .int (iI (f9)))]) hx hb dX11_aside_4 rfl hl (by decide) rfl (fun ls hl => ?_)
  refine lv_iload_n hx hb dX11_aside_5 rfl (lv_at hl 0 rfl) ?_
  refine j_if_le (tgt := 18) hx hb (by omega) dX11_aside_6 (by decide) (fun c_6 => ?_) (fun c_6 => ?_)
  · refine lv_iload_n hx hb dX11_aside_18 rfl (lv_at hl 0 rfl) ?_
    refine lv_iconst (v := iI (4)) hx hb dX11_aside_19 rfl ?_
    refine j_icmp_le (tgt := 27) hx hb (by omega) dX11_aside_20 (by decide) (fun c_20 => ?_) (fun c_20 => ?_)
    · refine lv_iconst (v := iI (0)) hx hb dX11_aside_27 rfl ?_
      rw [hQ]; exact jr_iret hx hb hr hlocks (jo_i (by unfold asX; omega)) dX11_aside_28
    · refine lv_iconst (v := iI (-1)) hx hb dX11_aside_23 rfl ?_
      refine lv_goto (tgt := 28) hx hb dX11_aside_24 (by decide) ?_
      rw [hQ]; exact jr_iret hx hb hr hlocks (jo_i (by unfold asX; omega)) dX11_aside_28
  · refine lv_iload_n hx hb dX11_aside_9 rfl (lv_at hl 0 rfl) ?_
    refine lv_iconst (v := iI (4)) hx hb dX11_aside_10 rfl ?_
    refine j_icmp_ge (tgt := 18) hx hb (by omega) dX11_aside_11 (by decide) (fun c_11 => ?_) (fun c_11 => ?_)
    · refine lv_iload_n hx hb dX11_aside_18 rfl (lv_at hl 0 rfl) ?_
      refine lv_iconst (v := iI (4)) hx hb dX11_aside_19 rfl ?_
      refine j_icmp_le (tgt := 27) hx hb (by omega) dX11_aside_20 (by decide) (fun c_20_1 => ?_) (fun c_20_1 => ?_)
      · refine lv_iconst (v := iI (0)) hx hb dX11_aside_27 rfl ?_
        rw [hQ]; exact jr_iret hx hb hr hlocks (jo_i (by unfold asX; omega)) dX11_aside_28
      · refine lv_iconst (v := iI (-1)) hx hb dX11_aside_23 rfl ?_
        refine lv_goto (tgt := 28) hx hb dX11_aside_24 (by decide) ?_
        rw [hQ]; exact jr_iret hx hb hr hlocks (jo_i (by unfold asX; omega)) dX11_aside_28
    · refine lv_iconst (v := iI (1)) hx hb dX11_aside_14 rfl ?_
      refine lv_goto (tgt := 28) hx hb dX11_aside_15 (by decide) ?_
      rw [hQ]; exact jr_iret hx hb hr hlocks (jo_i (by unfold asX; omega)) dX11_aside_28
theorem hsX11_aside : yX11_aside.cls ≠ "java/lang/invoke/MethodHandle" ∧ yX11_aside.cls ≠ "java/lang/invoke/VarHandle" ∧ (parseMethodDescriptor yX11_aside.desc).map (fun d => d.parameters.length) = some 1 := by decide +kernel
theorem hvX11_aside : yX11_aside.cls = RX11 ∧ yX11_aside.cls ≠ "java/lang/invoke/MethodHandle" ∧ yX11_aside.cls ≠ "java/lang/invoke/VarHandle" ∧ (parseMethodDescriptor yX11_aside.desc).map (fun d => d.parameters.length) = some 1 := ⟨rfl, hsX11_aside⟩
abbrev rmX11_along : Room := { frames := 1, cells := 0, slots := 0, locals := 21 }
set_option maxHeartbeats 4000000 in
set_option maxRecDepth 100000 in
theorem c_X11_along (l : Launch) (D : va_G) (cI cZ : ClassId) (z : jZT) (f9 : Int) : jRd l yX11_along wsX11_along rmX11_along [.int (iI (f9))] D cI cZ z [] (some (.int (iI (asX (f9 + 6))))) := by
  refine jRd_of (cc := cX11_along) (n := 1) (ret := (some .int)) (by decide) rfl (Nat.le_of_ble_eq_true rfl) ?_
  intro p e s m below meth c A ls args Q hQ F hA hZ hP hK hD hS hl
  obtain ⟨hx, hb, hr, hml, hown, hts, hlocks⟩ := F
  have hown : s.vm.findClass RX11 = some m.cls := hown
  have hl : lv_has ls 1 [(0, .int (iI (f9)))] := hl
  refine lv_iload_n hx hb dX11_along_0 rfl (lv_at hl 0 rfl) ?_
  refine lv_bipush (v := iI (6)) hx hb dX11_along_1 (by decide) ?_
  refine j_iadd hx hb dX11_along_3 ?_
  refine j_rd (va_runS (As := [.int (iI (f9 + 6))]) (rest := []) ⟨hx, hb, hml, hown, hts⟩ (c_X11_aside l D cI cZ z (f9 + 6)  s.heap.size) (va_cwS 1 hts gX11_along_X11_aside rfl rfl rfl hsX11_aside ⟨Nat.le_of_ble_eq_true rfl, Nat.le_of_ble_eq_true rfl⟩) (j_preS hP hD hK hS hZ hA [] rfl rfl) rfl rfl hl.1 rfl (lv_room (Nat.le_of_ble_eq_true rfl)) dX11_along_4 ⟨Nat.zero_le _, Nat.zero_le _⟩) ?_
  rw [hQ]; exact jr_iret hx hb hr hlocks rfl dX11_along_7
theorem hsX11_in : yX11_in.cls ≠ "java/lang/invoke/MethodHandle" ∧ yX11_in.cls ≠ "java/lang/invoke/VarHandle" ∧ (parseMethodDescriptor yX11_in.desc).map (fun d => d.parameters.length) = some 3 := by decide +kernel
theorem hvX11_in : yX11_in.cls = RX11 ∧ yX11_in.cls ≠ "java/lang/invoke/MethodHandle" ∧ yX11_in.cls ≠ "java/lang/invoke/VarHandle" ∧ (parseMethodDescriptor yX11_in.desc).map (fun d => d.parameters.length) = some 3 := ⟨rfl, hsX11_in⟩
abbrev rmX11_at : Room := { frames := 1, cells := 0, slots := 0, locals := 22 }
set_option maxHeartbeats 4000000 in
set_option maxRecDepth 100000 in
theorem c_X11_at (l : Launch) (D : va_G) (cI cZ : ClassId) (z : jZT) (h0 h40 h41 h42 h43 h44 h45 h46 h47 h48 h49 h50 h51 h52 : Nat) (x y th tra tn nx tk pl va fl tc km ta le rm9 rc9 fa tr ro lo : Int) (td gd : Int → Int) (dr : Bool) (hW : 3 ≤ td 0 ∧ td 0 ≤ 16) (hH : 3 ≤ td 1 ∧ td 1 ≤ 16) (hg : ∀ j : Int, 0 ≤ j → j < 256 → 0 ≤ gd j ∧ gd j ≤ 2) (hx : -2147483648 ≤ x ∧ x < 2147483648) (hy : -2147483648 ≤ y ∧ y < 2147483648) : jRd l yX11_at wsX11_at rmX11_at [.ref h0, .int (iI (x)), .int (iI (y))] D cI cZ z [(h0, .inr (11, [.int (iI (th)), .long (lI (tra)), .ref h40, .int (iI (tn)), .int (iI (nx)), .int (iI (tk)), .int (iI (pl)), .int (iI (va)), .int (iI (fl)), .ref h41, .ref h42, .ref h43, .ref h44, .ref h45, .ref h46, .ref h47, .ref h48, .ref h49, .ref h50, .ref h51, .int (iI (tc)), .ref h52, .int (iI (km)), .int (iI (bI dr)), .int (iI (ta)), .int (iI (le)), .int (iI (rm9)), .int (iI (rc9)), .int (iI (fa)), .int (iI (tr)), .int (iI (ro)), .int (iI (lo))])), (h41, .inl (cI, 18, .inl (aI td))), (h42, .inl (cI, 512, .inl (aI gd)))] (some (.int (iI (mA (td 0) (td 1) gd x y)))) := by
  refine jRd_of (cc := cX11_at) (n := 3) (ret := (some .int)) (by decide) rfl (Nat.le_of_ble_eq_true rfl) ?_
  intro p e s m below meth c A ls args Q hQ F hA hZ hP hK hD hS hl
  obtain ⟨hx, hb, hr, hml, hown, hts, hlocks⟩ := F
  have hown : s.vm.findClass RX11 = some m.cls := hown
  have hl : lv_has ls 3 [(0, .ref h0), (1, .int (iI (x))), (2, .int (iI (y)))] := hl
  have L13 := hts (.fieldLink RX11 13 "TinMouseModel" "told" "[I") (by decide +kernel)
  have L16 := hts (.fieldLink RX11 16 "TinMouseModel" "grid" "[I") (by decide +kernel)
  have UX11 : ∀ w ∈ wsX110, w ∈ wsX11_at := fun w h => List.mem_cons_of_mem _ (List.mem_append_right _ h)
  refine lv_iload_n hx hb dX11_at_0 rfl (lv_at hl 1 rfl) ?_
  refine lv_iconst (v := iI (0)) hx hb dX11_at_1 rfl ?_
  refine lv_aload_n hx hb dX11_at_2 rfl (lv_at hl 0 rfl) ?_
  refine va_get (D := D) (ci := 11) (v := .ref h41) (C := RX11) (T := TX11) (N := 32) hx hb hts UX11 hown hK hP 0 rfl rfl 9 (by decide) L13 (fun _ h9 => h9) rfl dX11_at_3 ?_
  refine lv_iconst (v := iI (0)) hx hb dX11_at_6 rfl ?_
  refine j_iald hx hb hK hP 1 0 rfl rfl (by omega) dX11_at_7 ?_
  refine lv_iconst (v := iI (1)) hx hb dX11_at_8 rfl ?_
  refine j_isub hx hb dX11_at_9 ?_
  refine j_rd (va_runS (As := [.int (iI (x)), .int (iI (0)), .int (iI ((td 0) - 1))]) (rest := []) ⟨hx, hb, hml, hown, hts⟩ (c_X11_in l D cI cZ z x 0 ((td 0) - 1) (by first | assumption | omega) (by first | assumption | omega) (by first | assumption | omega) s.heap.size) (va_cwS 3 hts gX11_at_X11_in rfl rfl rfl hsX11_in ⟨Nat.le_of_ble_eq_true rfl, Nat.le_of_ble_eq_true rfl⟩) (j_preS hP hD hK hS hZ hA [] rfl rfl) rfl rfl hl.1 rfl (lv_room (Nat.le_of_ble_eq_true rfl)) dX11_at_10 ⟨Nat.zero_le _, Nat.zero_le _⟩) ?_
  refine j_ifeq_d (tgt := 50) hx hb dX11_at_13 (by decide) (fun c_13 => ?_) (fun c_13 => ?_)
  · refine lv_bipush (v := iI (-5)) hx hb dX11_at_50 (by decide) ?_
    rw [hQ]; exact jr_iret hx hb hr hlocks (jo_i (by unfold mA; first | (rw [if_pos hin]; done) | (rw [if_neg (fun w => by have w2 := of_decide_eq_true w; omega)]; done))) dX11_at_52
  · refine lv_iload_n hx hb dX11_at_16 rfl (lv_at hl 2 rfl) ?_
    refine lv_iconst (v := iI (0)) hx hb dX11_at_17 rfl ?_
    refine lv_aload_n hx hb dX11_at_18 rfl (lv_at hl 0 rfl) ?_
    refine va_get (D := D) (ci := 11) (v := .ref h41) (C := RX11) (T := TX11) (N := 32) hx hb hts UX11 hown hK hP 0 rfl rfl 9 (by decide) L13 (fun _ h9 => h9) rfl dX11_at_19 ?_
    refine lv_iconst (v := iI (1)) hx hb dX11_at_22 rfl ?_
    refine j_iald hx hb hK hP 1 0 rfl rfl (by omega) dX11_at_23 ?_
    refine lv_iconst (v := iI (1)) hx hb dX11_at_24 rfl ?_
    refine j_isub hx hb dX11_at_25 ?_
    refine j_rd (va_runS (As := [.int (iI (y)), .int (iI (0)), .int (iI ((td 1) - 1))]) (rest := []) ⟨hx, hb, hml, hown, hts⟩ (c_X11_in l D cI cZ z y 0 ((td 1) - 1) (by first | assumption | omega) (by first | assumption | omega) (by first | assumption | omega) s.heap.size) (va_cwS 3 hts gX11_at_X11_in rfl rfl rfl hsX11_in ⟨Nat.le_of_ble_eq_true rfl, Nat.le_of_ble_eq_true rfl⟩) (j_preS hP hD hK hS hZ hA [] rfl rfl) rfl rfl hl.1 rfl (lv_room (Nat.le_of_ble_eq_true rfl)) dX11_at_26 ⟨Nat.zero_le _, Nat.zero_le _⟩) ?_
    refine j_ifeq_d (tgt := 50) hx hb dX11_at_29 (by decide) (fun c_29 => ?_) (fun c_29 => ?_)
    · refine lv_bipush (v := iI (-5)) hx hb dX11_at_50 (by decide) ?_
      rw [hQ]; exact jr_iret hx hb hr hlocks (jo_i (by unfold mA; first | (rw [if_pos hin]; done) | (rw [if_neg (fun w => by have w2 := of_decide_eq_true w; omega)]; done))) dX11_at_52
    · have hin : inT (td 0) (td 1) x y = true := decide_eq_true (by omega)
      have hcl := inT_cell hW hH hin
      have hwh := wh_rng hW hH
      refine lv_aload_n hx hb dX11_at_32 rfl (lv_at hl 0 rfl) ?_
      refine va_get (D := D) (ci := 11) (v := .ref h42) (C := RX11) (T := TX11) (N := 32) hx hb hts UX11 hown hK hP 0 rfl rfl 10 (by decide) L16 (fun _ h9 => h9) rfl dX11_at_33 ?_
      refine lv_aload_n hx hb dX11_at_36 rfl (lv_at hl 0 rfl) ?_
      refine va_get (D := D) (ci := 11) (v := .ref h41) (C := RX11) (T := TX11) (N := 32) hx hb hts UX11 hown hK hP 0 rfl rfl 9 (by decide) L13 (fun _ h9 => h9) rfl dX11_at_37 ?_
      refine lv_iconst (v := iI (0)) hx hb dX11_at_40 rfl ?_
      refine j_iald hx hb hK hP 1 0 rfl rfl (by omega) dX11_at_41 ?_
      refine lv_iload_n hx hb dX11_at_42 rfl (lv_at hl 2 rfl) ?_
      refine j_imul hx hb dX11_at_43 ?_
      refine lv_iload_n hx hb dX11_at_44 rfl (lv_at hl 1 rfl) ?_
      refine j_iadd hx hb dX11_at_45 ?_
      refine j_iald hx hb hK hP 2 0 rfl rfl (by omega) dX11_at_46 ?_
      refine lv_goto (tgt := 52) hx hb dX11_at_47 (by decide) ?_
      rw [hQ]; exact jr_iret hx hb hr hlocks (jo_i (by unfold mA; first | (rw [if_pos hin]; done) | (rw [if_neg (fun w => by have w2 := of_decide_eq_true w; omega)]; done))) dX11_at_52
theorem hsX11_at : yX11_at.cls ≠ "java/lang/invoke/MethodHandle" ∧ yX11_at.cls ≠ "java/lang/invoke/VarHandle" ∧ (parseMethodDescriptor yX11_at.desc).map (fun d => d.parameters.length) = some 2 := by decide +kernel
theorem hvX11_at : yX11_at.cls = RX11 ∧ yX11_at.cls ≠ "java/lang/invoke/MethodHandle" ∧ yX11_at.cls ≠ "java/lang/invoke/VarHandle" ∧ (parseMethodDescriptor yX11_at.desc).map (fun d => d.parameters.length) = some 2 := ⟨rfl, hsX11_at⟩
abbrev rmX11_isWood : Room := { frames := 2, cells := 0, slots := 0, locals := 44 }
set_option maxHeartbeats 4000000 in
set_option maxRecDepth 100000 in
theorem c_X11_isWood (l : Launch) (D : va_G) (cI cZ : ClassId) (z : jZT) (h0 h40 h41 h42 h43 h44 h45 h46 h47 h48 h49 h50 h51 h52 : Nat) (x y th tra tn nx tk pl va fl tc km ta le rm9 rc9 fa tr ro lo : Int) (td gd : Int → Int) (dr : Bool) (hW : 3 ≤ td 0 ∧ td 0 ≤ 16) (hH : 3 ≤ td 1 ∧ td 1 ≤ 16) (hg : ∀ j : Int, 0 ≤ j → j < 256 → 0 ≤ gd j ∧ gd j ≤ 2) (hx : -2147483648 ≤ x ∧ x < 2147483648) (hy : -2147483648 ≤ y ∧ y < 2147483648) : jRd l yX11_isWood wsX11_isWood rmX11_isWood [.ref h0, .int (iI (x)), .int (iI (y))] D cI cZ z [(h0, .inr (11, [.int (iI (th)), .long (lI (tra)), .ref h40, .int (iI (tn)), .int (iI (nx)), .int (iI (tk)), .int (iI (pl)), .int (iI (va)), .int (iI (fl)), .ref h41, .ref h42, .ref h43, .ref h44, .ref h45, .ref h46, .ref h47, .ref h48, .ref h49, .ref h50, .ref h51, .int (iI (tc)), .ref h52, .int (iI (km)), .int (iI (bI dr)), .int (iI (ta)), .int (iI (le)), .int (iI (rm9)), .int (iI (rc9)), .int (iI (fa)), .int (iI (tr)), .int (iI (ro)), .int (iI (lo))])), (h41, .inl (cI, 18, .inl (aI td))), (h42, .inl (cI, 512, .inl (aI gd)))] (some (.int (iI (bI (mW (td 0) (td 1) gd x y))))) := by
  refine jRd_of (cc := cX11_isWood) (n := 4) (ret := (some .boolean)) (by decide) rfl (Nat.le_of_ble_eq_true rfl) ?_
  intro p e s m below meth c A ls args Q hQ F hA hZ hP hK hD hS hl
  obtain ⟨hx, hb, hr, hml, hown, hts, hlocks⟩ := F
  have hown : s.vm.findClass RX11 = some m.cls := hown
  have hl : lv_has ls 4 [(0, .ref h0), (1, .int (iI (x))), (2, .int (iI (y)))] := hl
  have har := mA_rng hW hH hg x y
  refine lv_aload_n hx hb dX11_isWood_0 rfl (lv_at hl 0 rfl) ?_
  refine lv_iload_n hx hb dX11_isWood_1 rfl (lv_at hl 1 rfl) ?_
  refine lv_iload_n hx hb dX11_isWood_2 rfl (lv_at hl 2 rfl) ?_
  refine j_rd (va_runV (As := [.int (iI (x)), .int (iI (y))]) (rest := []) ⟨hx, hb, hml, hown, hts⟩ (c_X11_at l D cI cZ z h0 h40 h41 h42 h43 h44 h45 h46 h47 h48 h49 h50 h51 h52 x y th tra tn nx tk pl va fl tc km ta le rm9 rc9 fa tr ro lo td gd dr (by first | assumption | omega) (by first | assumption | omega) (by first | assumption | omega) (by first | assumption | omega) (by first | assumption | omega) s.heap.size) (cwV 2 hts gX11_isWood_X11_at rfl rfl rfl hvX11_at ⟨Nat.le_of_ble_eq_true rfl, Nat.le_of_ble_eq_true rfl⟩) (j_preV hP hD hK hS hZ hA [0, 1, 2] rfl rfl 0 rfl rfl) rfl rfl hl.1 rfl (lv_room (Nat.le_of_ble_eq_true rfl)) dX11_isWood_3 ⟨Nat.zero_le _, Nat.zero_le _⟩) ?_
  refine lv_istore_n (lv' := [(3, .int (iI (mA (td 0) (td 1) gd x y))), (0, .ref h0), (1, .int (iI (x))), (2, .int (iI (y)))]) hx hb dX11_isWood_6 rfl hl (by decide) rfl (fun ls hl => ?_)
  refine lv_iload_n hx hb dX11_isWood_7 rfl (lv_at hl 0 rfl) ?_
  refine j_if_eq (tgt := 16) hx hb (by omega) dX11_isWood_8 (by decide) (fun c_8 => ?_) (fun c_8 => ?_)
  · refine lv_iconst (v := iI (1)) hx hb dX11_isWood_16 rfl ?_
    refine lv_goto (tgt := 21) hx hb dX11_isWood_17 (by decide) ?_
    rw [hQ]; exact jr_zret hx hb hr hlocks jn_1 (jo_i (by unfold mW; first | (rw [decide_eq_true (by omega)]; rfl) | (rw [decide_eq_false (by omega)]; rfl))) dX11_isWood_21
  · refine lv_iload_n hx hb dX11_isWood_11 rfl (lv_at hl 0 rfl) ?_
    refine lv_iconst (v := iI (2)) hx hb dX11_isWood_12 rfl ?_
    refine j_icmp_ne (tgt := 20) hx hb (by omega) dX11_isWood_13 (by decide) (fun c_13 => ?_) (fun c_13 => ?_)
    · refine lv_iconst (v := iI (0)) hx hb dX11_isWood_20 rfl ?_
      rw [hQ]; exact jr_zret hx hb hr hlocks jn_0 (jo_i (by unfold mW; first | (rw [decide_eq_true (by omega)]; rfl) | (rw [decide_eq_false (by omega)]; rfl))) dX11_isWood_21
    · refine lv_iconst (v := iI (1)) hx hb dX11_isWood_16 rfl ?_
      refine lv_goto (tgt := 21) hx hb dX11_isWood_17 (by decide) ?_
      rw [hQ]; exact jr_zret hx hb hr hlocks jn_1 (jo_i (by unfold mW; first | (rw [decide_eq_true (by omega)]; rfl) | (rw [decide_eq_false (by omega)]; rfl))) dX11_isWood_21
theorem hsX11_along : yX11_along.cls ≠ "java/lang/invoke/MethodHandle" ∧ yX11_along.cls ≠ "java/lang/invoke/VarHandle" ∧ (parseMethodDescriptor yX11_along.desc).map (fun d => d.parameters.length) = some 1 := by decide +kernel
theorem hvX11_along : yX11_along.cls = RX11 ∧ yX11_along.cls ≠ "java/lang/invoke/MethodHandle" ∧ yX11_along.cls ≠ "java/lang/invoke/VarHandle" ∧ (parseMethodDescriptor yX11_along.desc).map (fun d => d.parameters.length) = some 1 := ⟨rfl, hsX11_along⟩
theorem hsX11_isWood : yX11_isWood.cls ≠ "java/lang/invoke/MethodHandle" ∧ yX11_isWood.cls ≠ "java/lang/invoke/VarHandle" ∧ (parseMethodDescriptor yX11_isWood.desc).map (fun d => d.parameters.length) = some 2 := by decide +kernel
theorem hvX11_isWood : yX11_isWood.cls = RX11 ∧ yX11_isWood.cls ≠ "java/lang/invoke/MethodHandle" ∧ yX11_isWood.cls ≠ "java/lang/invoke/VarHandle" ∧ (parseMethodDescriptor yX11_isWood.desc).map (fun d => d.parameters.length) = some 2 := ⟨rfl, hsX11_isWood⟩
abbrev rmX11_seesEdge : Room := { frames := 3, cells := 0, slots := 0, locals := 67 }
set_option maxHeartbeats 4000000 in
set_option maxRecDepth 100000 in
theorem c_X11_seesEdge (l : Launch) (D : va_G) (cI cZ : ClassId) (z : jZT) (h0 h60 h40 h41 h42 h43 h44 h45 h46 h47 h48 h49 h50 h51 h52 : Nat) (f9 th tra tn nx tk pl va fl tc km ta le rm9 rc9 fa tr ro lo : Int) (td gd wk : Int → Int) (dr : Bool) (hW : 3 ≤ td 0 ∧ td 0 ≤ 16) (hH : 3 ≤ td 1 ∧ td 1 ≤ 16) (hg : ∀ j : Int, 0 ≤ j → j < 256 → 0 ≤ gd j ∧ gd j ≤ 2) (hno : 1 ≤ td 2 ∧ td 2 ≤ 3) (hwk : (-40 ≤ wk 0 ∧ wk 0 < 40) ∧ (-40 ≤ wk 1 ∧ wk 1 < 40)) (hf9 : -100 ≤ f9 ∧ f9 < 100) : jRd l yX11_seesEdge wsX11_seesEdge rmX11_seesEdge [.ref h0, .ref h60, .int (iI (f9))] D cI cZ z [(h0, .inr (11, [.int (iI (th)), .long (lI (tra)), .ref h40, .int (iI (tn)), .int (iI (nx)), .int (iI (tk)), .int (iI (pl)), .int (iI (va)), .int (iI (fl)), .ref h41, .ref h42, .ref h43, .ref h44, .ref h45, .ref h46, .ref h47, .ref h48, .ref h49, .ref h50, .ref h51, .int (iI (tc)), .ref h52, .int (iI (km)), .int (iI (bI dr)), .int (iI (ta)), .int (iI (le)), .int (iI (rm9)), .int (iI (rc9)), .int (iI (fa)), .int (iI (tr)), .int (iI (ro)), .int (iI (lo))])), (h41, .inl (cI, 18, .inl (aI td))), (h42, .inl (cI, 512, .inl (aI gd))), (h60, .inl (cI, 4, .inl (aI wk)))] (some (.int (iI (bI (!mW (td 0) (td 1) gd (wk 0 + td 2 * asX f9) (wk 1 + td 2 * asX (f9 + 6))))))) := by
  refine jRd_of (cc := cX11_seesEdge) (n := 3) (ret := (some .boolean)) (by decide) rfl (Nat.le_of_ble_eq_true rfl) ?_
  intro p e s m below meth c A ls args Q hQ F hA hZ hP hK hD hS hl
  obtain ⟨hx, hb, hr, hml, hown, hts, hlocks⟩ := F
  have hown : s.vm.findClass RX11 = some m.cls := hown
  have hl : lv_has ls 3 [(0, .ref h0), (1, .ref h60), (2, .int (iI (f9)))] := hl
  have L13 := hts (.fieldLink RX11 13 "TinMouseModel" "told" "[I") (by decide +kernel)
  have UX11 : ∀ w ∈ wsX110, w ∈ wsX11_seesEdge := fun w h => List.mem_cons_of_mem _ (List.mem_append_right _ h)
  have hm1 := mul_rng (n := 3) (by omega : 0 ≤ td 2 ∧ td 2 ≤ 3) (asX_rng f9)
  have hm2 := mul_rng (n := 3) (by omega : 0 ≤ td 2 ∧ td 2 ≤ 3) (asX_rng (f9 + 6))
  refine lv_aload_n hx hb dX11_seesEdge_0 rfl (lv_at hl 0 rfl) ?_
  refine lv_aload_n hx hb dX11_seesEdge_1 rfl (lv_at hl 1 rfl) ?_
  refine lv_iconst (v := iI (0)) hx hb dX11_seesEdge_2 rfl ?_
  refine j_iald hx hb hK hP 3 0 rfl rfl (by omega) dX11_seesEdge_3 ?_
  refine lv_aload_n hx hb dX11_seesEdge_4 rfl (lv_at hl 0 rfl) ?_
  refine va_get (D := D) (ci := 11) (v := .ref h41) (C := RX11) (T := TX11) (N := 32) hx hb hts UX11 hown hK hP 0 rfl rfl 9 (by decide) L13 (fun _ h9 => h9) rfl dX11_seesEdge_5 ?_
  refine lv_iconst (v := iI (2)) hx hb dX11_seesEdge_8 rfl ?_
  refine j_iald hx hb hK hP 1 0 rfl rfl (by omega) dX11_seesEdge_9 ?_
  refine lv_iload_n hx hb dX11_seesEdge_10 rfl (lv_at hl 2 rfl) ?_
  refine j_rd (va_runS (As := [.int (iI (f9))]) (rest := [.int (iI (td 2)), .int (iI (wk 0)), .ref h0]) ⟨hx, hb, hml, hown, hts⟩ (c_X11_aside l D cI cZ z f9  s.heap.size) (va_cwS 1 hts gX11_seesEdge_X11_aside rfl rfl rfl hsX11_aside ⟨Nat.le_of_ble_eq_true rfl, Nat.le_of_ble_eq_true rfl⟩) (j_preS hP hD hK hS hZ hA [] rfl rfl) rfl rfl hl.1 rfl (lv_room (Nat.le_of_ble_eq_true rfl)) dX11_seesEdge_11 ⟨Nat.zero_le _, Nat.zero_le _⟩) ?_
  refine j_imul hx hb dX11_seesEdge_14 ?_
  refine j_iadd hx hb dX11_seesEdge_15 ?_
  refine lv_aload_n hx hb dX11_seesEdge_16 rfl (lv_at hl 1 rfl) ?_
  refine lv_iconst (v := iI (1)) hx hb dX11_seesEdge_17 rfl ?_
  refine j_iald hx hb hK hP 3 0 rfl rfl (by omega) dX11_seesEdge_18 ?_
  refine lv_aload_n hx hb dX11_seesEdge_19 rfl (lv_at hl 0 rfl) ?_
  refine va_get (D := D) (ci := 11) (v := .ref h41) (C := RX11) (T := TX11) (N := 32) hx hb hts UX11 hown hK hP 0 rfl rfl 9 (by decide) L13 (fun _ h9 => h9) rfl dX11_seesEdge_20 ?_
  refine lv_iconst (v := iI (2)) hx hb dX11_seesEdge_23 rfl ?_
  refine j_iald hx hb hK hP 1 0 rfl rfl (by omega) dX11_seesEdge_24 ?_
  refine lv_iload_n hx hb dX11_seesEdge_25 rfl (lv_at hl 2 rfl) ?_
  refine j_rd (va_runS (As := [.int (iI (f9))]) (rest := [.int (iI (td 2)), .int (iI (wk 1)), .int (iI ((wk 0) + ((td 2) * (asX f9)))), .ref h0]) ⟨hx, hb, hml, hown, hts⟩ (c_X11_along l D cI cZ z f9  s.heap.size) (va_cwS 1 hts gX11_seesEdge_X11_along rfl rfl rfl hsX11_along ⟨Nat.le_of_ble_eq_true rfl, Nat.le_of_ble_eq_true rfl⟩) (j_preS hP hD hK hS hZ hA [] rfl rfl) rfl rfl hl.1 rfl (lv_room (Nat.le_of_ble_eq_true rfl)) dX11_seesEdge_26 ⟨Nat.zero_le _, Nat.zero_le _⟩) ?_
  refine j_imul hx hb dX11_seesEdge_29 ?_
  refine j_iadd hx hb dX11_seesEdge_30 ?_
  refine j_rd (va_runV (As := [.int (iI ((wk 0) + ((td 2) * (asX f9)))), .int (iI ((wk 1) + ((td 2) * (asX (f9 + 6)))))]) (rest := []) ⟨hx, hb, hml, hown, hts⟩ (c_X11_isWood l D cI cZ z h0 h40 h41 h42 h43 h44 h45 h46 h47 h48 h49 h50 h51 h52 ((wk 0) + ((td 2) * (asX f9))) ((wk 1) + ((td 2) * (asX (f9 + 6)))) th tra tn nx tk pl va fl tc km ta le rm9 rc9 fa tr ro lo td gd dr (by first | assumption | omega) (by first | assumption | omega) (by first | assumption | omega) (by first | assumption | omega) (by first | assumption | omega) s.heap.size) (cwV 2 hts gX11_seesEdge_X11_isWood rfl rfl rfl hvX11_isWood ⟨Nat.le_of_ble_eq_true rfl, Nat.le_of_ble_eq_true rfl⟩) (j_preV hP hD hK hS hZ hA [0, 1, 2] rfl rfl 0 rfl rfl) rfl rfl hl.1 rfl (lv_room (Nat.le_of_ble_eq_true rfl)) dX11_seesEdge_31 ⟨Nat.zero_le _, Nat.zero_le _⟩) ?_
  refine j_ifne_b (tgt := 41) hx hb dX11_seesEdge_34 (by decide) (fun c_34 => ?_) (fun c_34 => ?_)
  · refine lv_iconst (v := iI (0)) hx hb dX11_seesEdge_41 rfl ?_
    rw [hQ]; exact jr_zret hx hb hr hlocks jn_0 (jo_i (by first | (rw [c_34]; rfl) | (rw [Bool.eq_false_iff.mpr c_34]; rfl) | (simp [c_34]; done))) dX11_seesEdge_42
  · refine lv_iconst (v := iI (1)) hx hb dX11_seesEdge_37 rfl ?_
    refine lv_goto (tgt := 42) hx hb dX11_seesEdge_38 (by decide) ?_
    rw [hQ]; exact jr_zret hx hb hr hlocks jn_1 (jo_i (by first | (rw [c_34]; rfl) | (rw [Bool.eq_false_iff.mpr c_34]; rfl) | (simp [c_34]; done))) dX11_seesEdge_42
abbrev rmX11_meetsBook : Room := { frames := 2, cells := 0, slots := 0, locals := 44 }
set_option maxHeartbeats 4000000 in
set_option maxRecDepth 100000 in
theorem c_X11_meetsBook (l : Launch) (D : va_G) (cI cZ : ClassId) (z : jZT) (h0 h60 h40 h41 h42 h43 h44 h45 h46 h47 h48 h49 h50 h51 h52 : Nat) (th tra tn nx tk pl va fl tc km ta le rm9 rc9 fa tr ro lo : Int) (td gd wk : Int → Int) (dr : Bool) (hW : 3 ≤ td 0 ∧ td 0 ≤ 16) (hH : 3 ≤ td 1 ∧ td 1 ≤ 16) (hg : ∀ j : Int, 0 ≤ j → j < 256 → 0 ≤ gd j ∧ gd j ≤ 2) (hwk : (-40 ≤ wk 0 ∧ wk 0 < 40) ∧ (-40 ≤ wk 1 ∧ wk 1 < 40)) : jRd l yX11_meetsBook wsX11_meetsBook rmX11_meetsBook [.ref h0, .ref h60] D cI cZ z [(h0, .inr (11, [.int (iI (th)), .long (lI (tra)), .ref h40, .int (iI (tn)), .int (iI (nx)), .int (iI (tk)), .int (iI (pl)), .int (iI (va)), .int (iI (fl)), .ref h41, .ref h42, .ref h43, .ref h44, .ref h45, .ref h46, .ref h47, .ref h48, .ref h49, .ref h50, .ref h51, .int (iI (tc)), .ref h52, .int (iI (km)), .int (iI (bI dr)), .int (iI (ta)), .int (iI (le)), .int (iI (rm9)), .int (iI (rc9)), .int (iI (fa)), .int (iI (tr)), .int (iI (ro)), .int (iI (lo))])), (h41, .inl (cI, 18, .inl (aI td))), (h42, .inl (cI, 512, .inl (aI gd))), (h60, .inl (cI, 4, .inl (aI wk)))] (some (.int (iI (bI (decide (mA (td 0) (td 1) gd (wk 0 + asX (wk 2)) (wk 1 + asX (wk 2 + 6)) = 2)))))) := by
  refine jRd_of (cc := cX11_meetsBook) (n := 2) (ret := (some .boolean)) (by decide) rfl (Nat.le_of_ble_eq_true rfl) ?_
  intro p e s m below meth c A ls args Q hQ F hA hZ hP hK hD hS hl
  obtain ⟨hx, hb, hr, hml, hown, hts, hlocks⟩ := F
  have hown : s.vm.findClass RX11 = some m.cls := hown
  have hl : lv_has ls 2 [(0, .ref h0), (1, .ref h60)] := hl
  have hm1 := asX_rng (wk 2)
  have hm2 := asX_rng (wk 2 + 6)
  have har := mA_rng hW hH hg (wk 0 + asX (wk 2)) (wk 1 + asX (wk 2 + 6))
  refine lv_aload_n hx hb dX11_meetsBook_0 rfl (lv_at hl 0 rfl) ?_
  refine lv_aload_n hx hb dX11_meetsBook_1 rfl (lv_at hl 1 rfl) ?_
  refine lv_iconst (v := iI (0)) hx hb dX11_meetsBook_2 rfl ?_
  refine j_iald hx hb hK hP 3 0 rfl rfl (by omega) dX11_meetsBook_3 ?_
  refine lv_aload_n hx hb dX11_meetsBook_4 rfl (lv_at hl 1 rfl) ?_
  refine lv_iconst (v := iI (2)) hx hb dX11_meetsBook_5 rfl ?_
  refine j_iald hx hb hK hP 3 0 rfl rfl (by omega) dX11_meetsBook_6 ?_
  refine j_rd (va_runS (As := [.int (iI (wk 2))]) (rest := [.int (iI (wk 0)), .ref h0]) ⟨hx, hb, hml, hown, hts⟩ (c_X11_aside l D cI cZ z (wk 2)  s.heap.size) (va_cwS 1 hts gX11_meetsBook_X11_aside rfl rfl rfl hsX11_aside ⟨Nat.le_of_ble_eq_true rfl, Nat.le_of_ble_eq_true rfl⟩) (j_preS hP hD hK hS hZ hA [] rfl rfl) rfl rfl hl.1 rfl (lv_room (Nat.le_of_ble_eq_true rfl)) dX11_meetsBook_7 ⟨Nat.zero_le _, Nat.zero_le _⟩) ?_
  refine j_iadd hx hb dX11_meetsBook_10 ?_
  refine lv_aload_n hx hb dX11_meetsBook_11 rfl (lv_at hl 1 rfl) ?_
  refine lv_iconst (v := iI (1)) hx hb dX11_meetsBook_12 rfl ?_
  refine j_iald hx hb hK hP 3 0 rfl rfl (by omega) dX11_meetsBook_13 ?_
  refine lv_aload_n hx hb dX11_meetsBook_14 rfl (lv_at hl 1 rfl) ?_
  refine lv_iconst (v := iI (2)) hx hb dX11_meetsBook_15 rfl ?_
  refine j_iald hx hb hK hP 3 0 rfl rfl (by omega) dX11_meetsBook_16 ?_
  refine j_rd (va_runS (As := [.int (iI (wk 2))]) (rest := [.int (iI (wk 1)), .int (iI ((wk 0) + (asX (wk 2)))), .ref h0]) ⟨hx, hb, hml, hown, hts⟩ (c_X11_along l D cI cZ z (wk 2)  s.heap.size) (va_cwS 1 hts gX11_meetsBook_X11_along rfl rfl rfl hsX11_along ⟨Nat.le_of_ble_eq_true rfl, Nat.le_of_ble_eq_true rfl⟩) (j_preS hP hD hK hS hZ hA [] rfl rfl) rfl rfl hl.1 rfl (lv_room (Nat.le_of_ble_eq_true rfl)) dX11_meetsBook_17 ⟨Nat.zero_le _, Nat.zero_le _⟩) ?_
  refine j_iadd hx hb dX11_meetsBook_20 ?_
  refine j_rd (va_runV (As := [.int (iI ((wk 0) + (asX (wk 2)))), .int (iI ((wk 1) + (asX ((wk 2) + 6))))]) (rest := []) ⟨hx, hb, hml, hown, hts⟩ (c_X11_at l D cI cZ z h0 h40 h41 h42 h43 h44 h45 h46 h47 h48 h49 h50 h51 h52 ((wk 0) + (asX (wk 2))) ((wk 1) + (asX ((wk 2) + 6))) th tra tn nx tk pl va fl tc km ta le rm9 rc9 fa tr ro lo td gd dr (by first | assumption | omega) (by first | assumption | omega) (by first | assumption | omega) (by first | assumption | omega) (by first | assumption | omega) s.heap.size) (cwV 2 hts gX11_meetsBook_X11_at rfl rfl rfl hvX11_at ⟨Nat.le_of_ble_eq_true rfl, Nat.le_of_ble_eq_true rfl⟩) (j_preV hP hD hK hS hZ hA [0, 1, 2] rfl rfl 0 rfl rfl) rfl rfl hl.1 rfl (lv_room (Nat.le_of_ble_eq_true rfl)) dX11_meetsBook_21 ⟨Nat.zero_le _, Nat.zero_le _⟩) ?_
  refine lv_iconst (v := iI (2)) hx hb dX11_meetsBook_24 rfl ?_
  refine j_icmp_ne (tgt := 32) hx hb (by omega) dX11_meetsBook_25 (by decide) (fun c_25 => ?_) (fun c_25 => ?_)
  · refine lv_iconst (v := iI (0)) hx hb dX11_meetsBook_32 rfl ?_
    rw [hQ]; exact jr_zret hx hb hr hlocks jn_0 (jo_i (by first | (rw [decide_eq_true (by omega)]; rfl) | (rw [decide_eq_false (by omega)]; rfl))) dX11_meetsBook_33
  · refine lv_iconst (v := iI (1)) hx hb dX11_meetsBook_28 rfl ?_
    refine lv_goto (tgt := 33) hx hb dX11_meetsBook_29 (by decide) ?_
    rw [hQ]; exact jr_zret hx hb hr hlocks jn_1 (jo_i (by first | (rw [decide_eq_true (by omega)]; rfl) | (rw [decide_eq_false (by omega)]; rfl))) dX11_meetsBook_33
abbrev rmX11_cells : Room := { frames := 0, cells := 0, slots := 0, locals := 0 }
set_option maxHeartbeats 4000000 in
set_option maxRecDepth 100000 in
theorem c_X11_cells (l : Launch) (D : va_G) (cI cZ : ClassId) (z : jZT) (h0 h40 h41 h42 h43 h44 h45 h46 h47 h48 h49 h50 h51 h52 : Nat) (th tra tn nx tk pl va fl tc km ta le rm9 rc9 fa tr ro lo : Int) (td : Int → Int) (dr : Bool) : jRd l yX11_cells wsX11_cells rmX11_cells [.ref h0] D cI cZ z [(h0, .inr (11, [.int (iI (th)), .long (lI (tra)), .ref h40, .int (iI (tn)), .int (iI (nx)), .int (iI (tk)), .int (iI (pl)), .int (iI (va)), .int (iI (fl)), .ref h41, .ref h42, .ref h43, .ref h44, .ref h45, .ref h46, .ref h47, .ref h48, .ref h49, .ref h50, .ref h51, .int (iI (tc)), .ref h52, .int (iI (km)), .int (iI (bI dr)), .int (iI (ta)), .int (iI (le)), .int (iI (rm9)), .int (iI (rc9)), .int (iI (fa)), .int (iI (tr)), .int (iI (ro)), .int (iI (lo))])), (h41, .inl (cI, 18, .inl (aI td)))] (some (.int (iI (td 0 * td 1)))) := by
  refine jRd_of (cc := cX11_cells) (n := 1) (ret := (some .int)) (by decide) rfl (Nat.le_of_ble_eq_true rfl) ?_
  intro p e s m below meth c A ls args Q hQ F hA hZ hP hK hD hS hl
  obtain ⟨hx, hb, hr, hml, hown, hts, hlocks⟩ := F
  have hown : s.vm.findClass RX11 = some m.cls := hown
  have hl : lv_has ls 1 [(0, .ref h0)] := hl
  have L13 := hts (.fieldLink RX11 13 "TinMouseModel" "told" "[I") (by decide +kernel)
  have UX11 : ∀ w ∈ wsX110, w ∈ wsX11_cells := fun w h => List.mem_cons_of_mem _ (List.mem_append_right _ h)
  refine lv_aload_n hx hb dX11_cells_0 rfl (lv_at hl 0 rfl) ?_
  refine va_get (D := D) (ci := 11) (v := .ref h41) (C := RX11) (T := TX11) (N := 32) hx hb hts UX11 hown hK hP 0 rfl rfl 9 (by decide) L13 (fun _ h9 => h9) rfl dX11_cells_1 ?_
  refine lv_iconst (v := iI (0)) hx hb dX11_cells_4 rfl ?_
  refine j_iald hx hb hK hP 1 0 rfl rfl (by omega) dX11_cells_5 ?_
  refine lv_aload_n hx hb dX11_cells_6 rfl (lv_at hl 0 rfl) ?_
  refine va_get (D := D) (ci := 11) (v := .ref h41) (C := RX11) (T := TX11) (N := 32) hx hb hts UX11 hown hK hP 0 rfl rfl 9 (by decide) L13 (fun _ h9 => h9) rfl dX11_cells_7 ?_
  refine lv_iconst (v := iI (1)) hx hb dX11_cells_10 rfl ?_
  refine j_iald hx hb hK hP 1 0 rfl rfl (by omega) dX11_cells_11 ?_
  refine j_imul hx hb dX11_cells_12 ?_
  rw [hQ]; exact jr_iret hx hb hr hlocks (jo_i (by rfl)) dX11_cells_13
