theorem hsX1_fitLine : yX1_fitLine.cls ≠ "java/lang/invoke/MethodHandle" ∧ yX1_fitLine.cls ≠ "java/lang/invoke/VarHandle" ∧ (parseMethodDescriptor yX1_fitLine.desc).map (fun d => d.parameters.length) = some 2 := by decide +kernel
theorem hvX1_fitLine : yX1_fitLine.cls = RX1 ∧ yX1_fitLine.cls ≠ "java/lang/invoke/MethodHandle" ∧ yX1_fitLine.cls ≠ "java/lang/invoke/VarHandle" ∧ (parseMethodDescriptor yX1_fitLine.desc).map (fun d => d.parameters.length) = some 2 := ⟨rfl, hsX1_fitLine⟩
theorem hsX1_leastTerm : yX1_leastTerm.cls ≠ "java/lang/invoke/MethodHandle" ∧ yX1_leastTerm.cls ≠ "java/lang/invoke/VarHandle" ∧ (parseMethodDescriptor yX1_leastTerm.desc).map (fun d => d.parameters.length) = some 1 := by decide +kernel
theorem hvX1_leastTerm : yX1_leastTerm.cls = RX1 ∧ yX1_leastTerm.cls ≠ "java/lang/invoke/MethodHandle" ∧ yX1_leastTerm.cls ≠ "java/lang/invoke/VarHandle" ∧ (parseMethodDescriptor yX1_leastTerm.desc).map (fun d => d.parameters.length) = some 1 := ⟨rfl, hsX1_leastTerm⟩
abbrev rmX10_law : Room := { frames := 2, cells := 0, slots := 0, locals := 53 }
set_option maxHeartbeats 4000000 in
set_option maxRecDepth 100000 in
theorem c_X10_law (l : Launch) (D : va_G) (cI cZ : ClassId) (z : jZT) (h0 h20 h21 h10 h12 h14 h15 h16 h8 h1 h6 h2 h3 h17 h18 h19 h26 h27 : Nat) (t w tk9 lt tra km ku kl : Int) (kt ks : Int → Int) (n9 : Nat) (hkn : km = (n9 : Int)) (hK9 : KeyI kt ks n9) (ht : -2147483648 ≤ t ∧ t < 2147483648) (hw : -2147483648 ≤ w ∧ w < 2147483648) : jMu (S := Int × Int × Int) l yX10_law wsX10_law rmX10_law [.ref h0, .int (iI (t)), .int (iI (w))] D cI cZ z [(h0, .inr (10, [.ref h20, .ref h21, .ref h10, .ref h12, .ref h14, .ref h15, .ref h16, .ref h8, .ref h1, .ref h6, .ref h2, .ref h3, .ref h17, .ref h18, .int (iI (tk9)), .ref h19, .int (iI (lt)), .long (lI (tra))])), (h19, .inr (1, [.ref h26, .ref h27, .int (iI (km)), .long (lI (ku)), .long (lI (kl))])), (h26, .inl (cI, 20, .inl (aI kt))), (h27, .inl (cI, 20, .inl (aI ks)))] (fun u => some (.int (iI (u.2.2)))) (fun u => u.2.2 = lawF kt ks n9 t w) (fun u => [(h0, .inr (10, [.ref h20, .ref h21, .ref h10, .ref h12, .ref h14, .ref h15, .ref h16, .ref h8, .ref h1, .ref h6, .ref h2, .ref h3, .ref h17, .ref h18, .int (iI (tk9)), .ref h19, .int (iI (lt)), .long (lI (tra))])), (h19, .inr (1, [.ref h26, .ref h27, .int (iI (km)), .long (lI (u.1)), .long (lI (u.2.1))])), (h26, .inl (cI, 20, .inl (aI kt))), (h27, .inl (cI, 20, .inl (aI ks)))]) := by
  refine jMu_of (cc := cX10_law) (n := 3) (ret := (some .int)) (by decide) rfl (Nat.le_of_ble_eq_true rfl) ?_
  intro p e s m below meth c A ls args Q hQ F hA hZ hP hK hD hS hl
  obtain ⟨hx, hb, hr, hml, hown, hts, hlocks⟩ := F
  have hown : s.vm.findClass RX10 = some m.cls := hown
  have hl : lv_has ls 3 [(0, .ref h0), (1, .int (iI (t))), (2, .int (iI (w)))] := hl
  have C326 := hts (.constant RX10 326 (-1000000)) (by decide +kernel)
  have L99 := hts (.fieldLink RX10 99 "TinMouse" "keys" "LTinMouse$Keys;") (by decide +kernel)
  have UX10 : ∀ w ∈ wsX100, w ∈ wsX10_law := fun w h => List.mem_cons_of_mem _ (List.mem_append_left _ (List.mem_append_right _ h))
  refine lv_iload_n hx hb dX10_law_0 rfl (lv_at hl 1 rfl) ?_
  refine j_if_lt (tgt := 19) hx hb (by omega) dX10_law_1 (by decide) (fun c_1 => ?_) (fun c_1 => ?_)
  · refine lv_ldcw (v := iI (-1000000)) hx hb hown C326 dX10_law_19 ?_
    rw [hQ]; exact jm_iret (ku, kl, -1000000) hx hb hr hlocks hS hP rfl (by (try dsimp only); first | (rw [law_no1 (by omega)]; done) | (rw [law_no2 (by omega) (by omega)]; done) | (rw [law_ok (b := true) (by omega) (by omega) (decide_eq_true (by omega)), hu1, hu2]; done) | (rw [law_ok (b := false) (by omega) (by omega) (decide_eq_false (by omega)), hu1, hu2]; done)) dX10_law_22
  · refine lv_iload_n hx hb dX10_law_4 rfl (lv_at hl 1 rfl) ?_
    refine lv_bipush (v := iI (99)) hx hb dX10_law_5 (by decide) ?_
    refine j_icmp_gt (tgt := 19) hx hb (by omega) dX10_law_7 (by decide) (fun c_7 => ?_) (fun c_7 => ?_)
    · refine lv_ldcw (v := iI (-1000000)) hx hb hown C326 dX10_law_19 ?_
      rw [hQ]; exact jm_iret (ku, kl, -1000000) hx hb hr hlocks hS hP rfl (by (try dsimp only); first | (rw [law_no1 (by omega)]; done) | (rw [law_no2 (by omega) (by omega)]; done) | (rw [law_ok (b := true) (by omega) (by omega) (decide_eq_true (by omega)), hu1, hu2]; done) | (rw [law_ok (b := false) (by omega) (by omega) (decide_eq_false (by omega)), hu1, hu2]; done)) dX10_law_22
    · refine lv_iload_n hx hb dX10_law_10 rfl (lv_at hl 2 rfl) ?_
      refine j_if_lt (tgt := 19) hx hb (by omega) dX10_law_11 (by decide) (fun c_11 => ?_) (fun c_11 => ?_)
      · refine lv_ldcw (v := iI (-1000000)) hx hb hown C326 dX10_law_19 ?_
        rw [hQ]; exact jm_iret (ku, kl, -1000000) hx hb hr hlocks hS hP rfl (by (try dsimp only); first | (rw [law_no1 (by omega)]; done) | (rw [law_no2 (by omega) (by omega)]; done) | (rw [law_ok (b := true) (by omega) (by omega) (decide_eq_true (by omega)), hu1, hu2]; done) | (rw [law_ok (b := false) (by omega) (by omega) (decide_eq_false (by omega)), hu1, hu2]; done)) dX10_law_22
      · refine lv_iload_n hx hb dX10_law_14 rfl (lv_at hl 2 rfl) ?_
        refine lv_iconst (v := iI (3)) hx hb dX10_law_15 rfl ?_
        refine j_icmp_le (tgt := 23) hx hb (by omega) dX10_law_16 (by decide) (fun c_16 => ?_) (fun c_16 => ?_)
        · refine lv_aload_n hx hb dX10_law_23 rfl (lv_at hl 0 rfl) ?_
          refine va_get (D := D) (ci := 10) (v := .ref h19) (C := RX10) (T := TX10) (N := 18) hx hb hts UX10 hown hK hP 0 rfl rfl 15 (by decide) L99 (fun _ h9 => h9) rfl dX10_law_24 ?_
          refine lv_iload_n hx hb dX10_law_27 rfl (lv_at hl 1 rfl) ?_
          refine lv_iload_n hx hb dX10_law_28 rfl (lv_at hl 2 rfl) ?_
          refine lv_iconst (v := iI (2)) hx hb dX10_law_29 rfl ?_
          refine j_icmp_lt (tgt := 37) hx hb (by omega) dX10_law_30 (by decide) (fun c_30 => ?_) (fun c_30 => ?_)
          · refine lv_iconst (v := iI (0)) hx hb dX10_law_37 rfl ?_
            rw [show iI 0 = iI (bI false) from rfl]
            refine j_mui (va_runV (As := [.int (iI (t)), .int (iI (bI false))]) (rest := []) ⟨hx, hb, hml, hown, hts⟩ (c_X1_fitLine l D cI cZ z h19 h26 h27 t km ku kl kt ks false n9 (by first | assumption | omega) (by first | assumption | omega) (by omega) s.heap.size) (cwV 2 hts gX10_law_X1_fitLine rfl rfl rfl hvX1_fitLine ⟨Nat.le_of_ble_eq_true rfl, Nat.le_of_ble_eq_true rfl⟩) (j_preV hP hD hK hS hZ hA [1, 2, 3] rfl rfl 1 rfl rfl) rfl rfl hl.1 rfl (lv_room (Nat.le_of_ble_eq_true rfl)) dX10_law_38 ⟨Nat.zero_le _, Nat.zero_le _⟩) hP hD hS hA [1, 2, 3] rfl (fun _ => rfl) (fun u_9 H locs hw_38 hP hD hS => ?_)
            obtain ⟨ku2_1, kl2_2⟩ := u_9
            dsimp only at hw_38
            have hP : va_P D vwCl [(h0, .inr (10, [.ref h20, .ref h21, .ref h10, .ref h12, .ref h14, .ref h15, .ref h16, .ref h8, .ref h1, .ref h6, .ref h2, .ref h3, .ref h17, .ref h18, .int (iI (tk9)), .ref h19, .int (iI (lt)), .long (lI (tra))])), (h19, .inr (1, [.ref h26, .ref h27, .int (iI (km)), .long (lI (ku2_1)), .long (lI (kl2_2))])), (h26, .inl (cI, 20, .inl (aI kt))), (h27, .inl (cI, 20, .inl (aI ks)))] H := hP
            have hD : va_D A [(h0, .inr (10, [.ref h20, .ref h21, .ref h10, .ref h12, .ref h14, .ref h15, .ref h16, .ref h8, .ref h1, .ref h6, .ref h2, .ref h3, .ref h17, .ref h18, .int (iI (tk9)), .ref h19, .int (iI (lt)), .long (lI (tra))])), (h19, .inr (1, [.ref h26, .ref h27, .int (iI (km)), .long (lI (ku2_1)), .long (lI (kl2_2))])), (h26, .inl (cI, 20, .inl (aI kt))), (h27, .inl (cI, 20, .inl (aI ks)))] := hD
            obtain ⟨hu1, hu2⟩ := hw_38
            refine j_ifeq_d (tgt := 57) hx hb dX10_law_41 (by decide) (fun c_41 => ?_) (fun c_41 => ?_)
            · refine lv_ldcw (v := iI (-1000000)) hx hb hown C326 dX10_law_57 ?_
              rw [hQ]; exact jm_iret (ku2_1, kl2_2, -1000000) hx hb hr hlocks hS hP rfl (by (try dsimp only); first | (rw [law_no1 (by omega)]; done) | (rw [law_no2 (by omega) (by omega)]; done) | (rw [law_ok (b := true) (by omega) (by omega) (decide_eq_true (by omega)), hu1, hu2]; done) | (rw [law_ok (b := false) (by omega) (by omega) (decide_eq_false (by omega)), hu1, hu2]; done)) dX10_law_60
            · have hlr := kLo_rng hK9
              have hur1 := kUp_rng hK9 (t := t) (by omega) true
              have hur2 := kUp_rng hK9 (t := t) (by omega) false
              refine lv_aload_n hx hb dX10_law_44 rfl (lv_at hl 0 rfl) ?_
              refine va_get (D := D) (ci := 10) (v := .ref h19) (C := RX10) (T := TX10) (N := 18) hx hb hts UX10 hown hK hP 0 rfl rfl 15 (by decide) L99 (fun _ h9 => h9) rfl dX10_law_45 ?_
              refine lv_iload_n hx hb dX10_law_48 rfl (lv_at hl 2 rfl) ?_
              refine lv_iconst (v := iI (2)) hx hb dX10_law_49 rfl ?_
              refine j_irem hx hb (by omega) dX10_law_50 ?_
              refine j_rd (va_runV (As := [.int (iI (w % 2))]) (rest := []) ⟨hx, hb, hml, hown, hts⟩ (c_X1_leastTerm l D cI cZ z h19 h26 h27 (w % 2) km ku2_1 kl2_2 (by first | assumption | omega) (by first | assumption | omega) (by first | assumption | omega) H.size) (cwV 1 hts gX10_law_X1_leastTerm rfl rfl rfl hvX1_leastTerm ⟨Nat.le_of_ble_eq_true rfl, Nat.le_of_ble_eq_true rfl⟩) (j_preV hP hD hK hS hZ hA [1] rfl rfl 1 rfl rfl) rfl rfl hl.1 rfl (lv_room (Nat.le_of_ble_eq_true rfl)) dX10_law_51 ⟨Nat.zero_le _, Nat.zero_le _⟩) ?_
              refine lv_goto (tgt := 60) hx hb dX10_law_54 (by decide) ?_
              rw [hQ]; exact jm_iret (ku2_1, kl2_2, if (w % 2) = 0 then Int.tdiv ku2_1 (gcI ku2_1 kl2_2) else Int.tdiv kl2_2 (gcI ku2_1 kl2_2)) hx hb hr hlocks hS hP rfl (by (try dsimp only); first | (rw [law_no1 (by omega)]; done) | (rw [law_no2 (by omega) (by omega)]; done) | (rw [law_ok (b := true) (by omega) (by omega) (decide_eq_true (by omega)), hu1, hu2]; done) | (rw [law_ok (b := false) (by omega) (by omega) (decide_eq_false (by omega)), hu1, hu2]; done)) dX10_law_60
          · refine lv_iconst (v := iI (1)) hx hb dX10_law_33 rfl ?_
            rw [show iI 1 = iI (bI true) from rfl]
            refine lv_goto (tgt := 38) hx hb dX10_law_34 (by decide) ?_
            refine j_mui (va_runV (As := [.int (iI (t)), .int (iI (bI true))]) (rest := []) ⟨hx, hb, hml, hown, hts⟩ (c_X1_fitLine l D cI cZ z h19 h26 h27 t km ku kl kt ks true n9 (by first | assumption | omega) (by first | assumption | omega) (by omega) s.heap.size) (cwV 2 hts gX10_law_X1_fitLine rfl rfl rfl hvX1_fitLine ⟨Nat.le_of_ble_eq_true rfl, Nat.le_of_ble_eq_true rfl⟩) (j_preV hP hD hK hS hZ hA [1, 2, 3] rfl rfl 1 rfl rfl) rfl rfl hl.1 rfl (lv_room (Nat.le_of_ble_eq_true rfl)) dX10_law_38 ⟨Nat.zero_le _, Nat.zero_le _⟩) hP hD hS hA [1, 2, 3] rfl (fun _ => rfl) (fun u_9 H locs hw_38 hP hD hS => ?_)
            obtain ⟨ku2_3, kl2_4⟩ := u_9
            dsimp only at hw_38
            have hP : va_P D vwCl [(h0, .inr (10, [.ref h20, .ref h21, .ref h10, .ref h12, .ref h14, .ref h15, .ref h16, .ref h8, .ref h1, .ref h6, .ref h2, .ref h3, .ref h17, .ref h18, .int (iI (tk9)), .ref h19, .int (iI (lt)), .long (lI (tra))])), (h19, .inr (1, [.ref h26, .ref h27, .int (iI (km)), .long (lI (ku2_3)), .long (lI (kl2_4))])), (h26, .inl (cI, 20, .inl (aI kt))), (h27, .inl (cI, 20, .inl (aI ks)))] H := hP
            have hD : va_D A [(h0, .inr (10, [.ref h20, .ref h21, .ref h10, .ref h12, .ref h14, .ref h15, .ref h16, .ref h8, .ref h1, .ref h6, .ref h2, .ref h3, .ref h17, .ref h18, .int (iI (tk9)), .ref h19, .int (iI (lt)), .long (lI (tra))])), (h19, .inr (1, [.ref h26, .ref h27, .int (iI (km)), .long (lI (ku2_3)), .long (lI (kl2_4))])), (h26, .inl (cI, 20, .inl (aI kt))), (h27, .inl (cI, 20, .inl (aI ks)))] := hD
            obtain ⟨hu1, hu2⟩ := hw_38
            refine j_ifeq_d (tgt := 57) hx hb dX10_law_41 (by decide) (fun c_41_1 => ?_) (fun c_41_1 => ?_)
            · refine lv_ldcw (v := iI (-1000000)) hx hb hown C326 dX10_law_57 ?_
              rw [hQ]; exact jm_iret (ku2_3, kl2_4, -1000000) hx hb hr hlocks hS hP rfl (by (try dsimp only); first | (rw [law_no1 (by omega)]; done) | (rw [law_no2 (by omega) (by omega)]; done) | (rw [law_ok (b := true) (by omega) (by omega) (decide_eq_true (by omega)), hu1, hu2]; done) | (rw [law_ok (b := false) (by omega) (by omega) (decide_eq_false (by omega)), hu1, hu2]; done)) dX10_law_60
            · have hlr := kLo_rng hK9
              have hur1 := kUp_rng hK9 (t := t) (by omega) true
              have hur2 := kUp_rng hK9 (t := t) (by omega) false
              refine lv_aload_n hx hb dX10_law_44 rfl (lv_at hl 0 rfl) ?_
              refine va_get (D := D) (ci := 10) (v := .ref h19) (C := RX10) (T := TX10) (N := 18) hx hb hts UX10 hown hK hP 0 rfl rfl 15 (by decide) L99 (fun _ h9 => h9) rfl dX10_law_45 ?_
              refine lv_iload_n hx hb dX10_law_48 rfl (lv_at hl 2 rfl) ?_
              refine lv_iconst (v := iI (2)) hx hb dX10_law_49 rfl ?_
              refine j_irem hx hb (by omega) dX10_law_50 ?_
              refine j_rd (va_runV (As := [.int (iI (w % 2))]) (rest := []) ⟨hx, hb, hml, hown, hts⟩ (c_X1_leastTerm l D cI cZ z h19 h26 h27 (w % 2) km ku2_3 kl2_4 (by first | assumption | omega) (by first | assumption | omega) (by first | assumption | omega) H.size) (cwV 1 hts gX10_law_X1_leastTerm rfl rfl rfl hvX1_leastTerm ⟨Nat.le_of_ble_eq_true rfl, Nat.le_of_ble_eq_true rfl⟩) (j_preV hP hD hK hS hZ hA [1] rfl rfl 1 rfl rfl) rfl rfl hl.1 rfl (lv_room (Nat.le_of_ble_eq_true rfl)) dX10_law_51 ⟨Nat.zero_le _, Nat.zero_le _⟩) ?_
              refine lv_goto (tgt := 60) hx hb dX10_law_54 (by decide) ?_
              rw [hQ]; exact jm_iret (ku2_3, kl2_4, if (w % 2) = 0 then Int.tdiv ku2_3 (gcI ku2_3 kl2_4) else Int.tdiv kl2_4 (gcI ku2_3 kl2_4)) hx hb hr hlocks hS hP rfl (by (try dsimp only); first | (rw [law_no1 (by omega)]; done) | (rw [law_no2 (by omega) (by omega)]; done) | (rw [law_ok (b := true) (by omega) (by omega) (decide_eq_true (by omega)), hu1, hu2]; done) | (rw [law_ok (b := false) (by omega) (by omega) (decide_eq_false (by omega)), hu1, hu2]; done)) dX10_law_60
        · refine lv_ldcw (v := iI (-1000000)) hx hb hown C326 dX10_law_19 ?_
          rw [hQ]; exact jm_iret (ku, kl, -1000000) hx hb hr hlocks hS hP rfl (by (try dsimp only); first | (rw [law_no1 (by omega)]; done) | (rw [law_no2 (by omega) (by omega)]; done) | (rw [law_ok (b := true) (by omega) (by omega) (decide_eq_true (by omega)), hu1, hu2]; done) | (rw [law_ok (b := false) (by omega) (by omega) (decide_eq_false (by omega)), hu1, hu2]; done)) dX10_law_22
abbrev rmX10_circle : Room := { frames := 1, cells := 0, slots := 0, locals := 30 }
set_option maxHeartbeats 4000000 in
set_option maxRecDepth 100000 in
theorem c_X10_circle (l : Launch) (D : va_G) (cI cZ : ClassId) (z : jZT) (h0 h20 h21 h10 h12 h14 h15 h16 h8 h1 h6 h2 h3 h17 h18 h19 : Nat) (x y tk9 lt tra : Int) (hx : -2147483648 ≤ x ∧ x < 2147483648) (hy : -2147483648 ≤ y ∧ y < 2147483648) : jRd l yX10_circle wsX10_circle rmX10_circle [.ref h0, .int (iI (x)), .int (iI (y))] D cI cZ z [(h0, .inr (10, [.ref h20, .ref h21, .ref h10, .ref h12, .ref h14, .ref h15, .ref h16, .ref h8, .ref h1, .ref h6, .ref h2, .ref h3, .ref h17, .ref h18, .int (iI (tk9)), .ref h19, .int (iI (lt)), .long (lI (tra))]))] (some (.int (iI (circF x y)))) := by
  refine jRd_of (cc := cX10_circle) (n := 4) (ret := (some .int)) (by decide) rfl (Nat.le_of_ble_eq_true rfl) ?_
  intro p e s m below meth c A ls args Q hQ F hA hZ hP hK hD hS hl
  obtain ⟨hx, hb, hr, hml, hown, hts, hlocks⟩ := F
  have hown : s.vm.findClass RX10 = some m.cls := hown
  have hl : lv_has ls 4 [(0, .ref h0), (1, .int (iI (x))), (2, .int (iI (y)))] := hl
  refine lv_iload_n hx hb dX10_circle_0 rfl (lv_at hl 2 rfl) ?_
  refine lv_iconst (v := iI (1)) hx hb dX10_circle_1 rfl ?_
  refine j_icmp_lt (tgt := 21) hx hb (by omega) dX10_circle_2 (by decide) (fun c_2 => ?_) (fun c_2 => ?_)
  · refine lv_iconst (v := iI (-1)) hx hb dX10_circle_21 rfl ?_
    rw [hQ]; exact jr_iret hx hb hr hlocks (jo_i (by unfold circF; first | (rw [if_pos (by omega)]; done) | (rw [if_neg (by omega)]; done))) dX10_circle_22
  · refine lv_iload_n hx hb dX10_circle_5 rfl (lv_at hl 2 rfl) ?_
    refine lv_sipush (v := iI (360)) hx hb dX10_circle_6 (by decide) ?_
    refine j_icmp_gt (tgt := 21) hx hb (by omega) dX10_circle_9 (by decide) (fun c_9 => ?_) (fun c_9 => ?_)
    · refine lv_iconst (v := iI (-1)) hx hb dX10_circle_21 rfl ?_
      rw [hQ]; exact jr_iret hx hb hr hlocks (jo_i (by unfold circF; first | (rw [if_pos (by omega)]; done) | (rw [if_neg (by omega)]; done))) dX10_circle_22
    · refine lv_iload_n hx hb dX10_circle_12 rfl (lv_at hl 1 rfl) ?_
      refine j_if_lt (tgt := 21) hx hb (by omega) dX10_circle_13 (by decide) (fun c_13 => ?_) (fun c_13 => ?_)
      · refine lv_iconst (v := iI (-1)) hx hb dX10_circle_21 rfl ?_
        rw [hQ]; exact jr_iret hx hb hr hlocks (jo_i (by unfold circF; first | (rw [if_pos (by omega)]; done) | (rw [if_neg (by omega)]; done))) dX10_circle_22
      · refine lv_iload_n hx hb dX10_circle_16 rfl (lv_at hl 1 rfl) ?_
        refine lv_iload_n hx hb dX10_circle_17 rfl (lv_at hl 2 rfl) ?_
        refine j_icmp_lt (tgt := 23) hx hb (by omega) dX10_circle_18 (by decide) (fun c_18 => ?_) (fun c_18 => ?_)
        · have hgl := gcI_le (a := 2 * x) (show 0 < y by omega)
          refine lv_iconst (v := iI (2)) hx hb dX10_circle_23 rfl ?_
          refine lv_iload_n hx hb dX10_circle_24 rfl (lv_at hl 1 rfl) ?_
          refine j_imul hx hb dX10_circle_25 ?_
          refine j_i2l hx hb (by omega) dX10_circle_26 ?_
          refine lv_iload_n hx hb dX10_circle_27 rfl (lv_at hl 2 rfl) ?_
          refine j_i2l hx hb (by omega) dX10_circle_28 ?_
          refine j_rd (va_runS (As := [.long (lI (2 * x)), .long (lI (y))]) (rest := []) ⟨hx, hb, hml, hown, hts⟩ (c_X10_divisorOf l D cI cZ z (2 * x) y (by first | assumption | omega) (by first | assumption | omega) s.heap.size) (va_cwS 2 hts gX10_circle_X10_divisorOf rfl rfl rfl hsX10_divisorOf ⟨Nat.le_of_ble_eq_true rfl, Nat.le_of_ble_eq_true rfl⟩) (j_preS hP hD hK hS hZ hA [] rfl rfl) rfl rfl hl.1 rfl (lv_room (Nat.le_of_ble_eq_true rfl)) dX10_circle_29 ⟨Nat.zero_le _, Nat.zero_le _⟩) ?_
          rw [if_pos (by omega)]
          refine j_l2i hx hb dX10_circle_32 ?_
          refine lv_istore_n (lv' := [(3, .int (iI (gcI (2 * x) y))), (0, .ref h0), (1, .int (iI (x))), (2, .int (iI (y)))]) hx hb dX10_circle_33 rfl hl (by decide) rfl (fun ls hl => ?_)
          refine lv_iload_n hx hb dX10_circle_34 rfl (lv_at hl 0 rfl) ?_
          refine j_if_le (tgt := 44) hx hb (by omega) dX10_circle_35 (by decide) (fun c_35 => ?_) (fun c_35 => ?_)
          · exact False.elim (by omega)
          · refine lv_iload_n hx hb dX10_circle_38 rfl (lv_at hl 3 rfl) ?_
            refine lv_iload_n hx hb dX10_circle_39 rfl (lv_at hl 0 rfl) ?_
            refine j_idiv hx hb (by omega) dX10_circle_40 ?_
            refine lv_goto (tgt := 45) hx hb dX10_circle_41 (by decide) ?_
            rw [hQ]; exact jr_iret hx hb hr hlocks (jo_i (by unfold circF; first | (rw [if_pos (by omega)]; done) | (rw [if_neg (by omega)]; done))) dX10_circle_45
        · refine lv_iconst (v := iI (-1)) hx hb dX10_circle_21 rfl ?_
          rw [hQ]; exact jr_iret hx hb hr hlocks (jo_i (by unfold circF; first | (rw [if_pos (by omega)]; done) | (rw [if_neg (by omega)]; done))) dX10_circle_22
