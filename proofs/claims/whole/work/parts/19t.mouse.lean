abbrev rmX10_imageOfA : Room := { frames := 0, cells := 0, slots := 0, locals := 0 }
set_option maxHeartbeats 4000000 in
set_option maxRecDepth 100000 in
theorem c_X10_imageOfA (l : Launch) (D : va_G) (cI cZ : ClassId) (z : jZT) (h0 h20 h21 h10 h12 h14 h15 h16 h8 h1 h6 h2 h3 h17 h18 h19 : Nat) (tk9 lt tra : Int) : jRd l yX10_imageOf wsX10_imageOf rmX10_imageOfA [.ref h0, .int (iI (0))] D cI cZ z [(h0, .inr (10, [.ref h20, .ref h21, .ref h10, .ref h12, .ref h14, .ref h15, .ref h16, .ref h8, .ref h1, .ref h6, .ref h2, .ref h3, .ref h17, .ref h18, .int (iI (tk9)), .ref h19, .int (iI (lt)), .long (lI (tra))]))] (some (.ref h15)) := by
  refine jRd_of (cc := cX10_imageOf) (n := 2) (ret := (some (.object "TinMouse$Image"))) (by decide) rfl (Nat.le_of_ble_eq_true rfl) ?_
  intro p e s m below meth c A ls args Q hQ F hA hZ hP hK hD hS hl
  obtain ⟨hx, hb, hr, hml, hown, hts, hlocks⟩ := F
  have hown : s.vm.findClass RX10 = some m.cls := hown
  have hl : lv_has ls 2 [(0, .ref h0), (1, .int (iI (0)))] := hl
  have L45 := hts (.fieldLink RX10 45 "TinMouse" "firstImage" "LTinMouse$Image;") (by decide +kernel)
  have UX10 : ∀ w ∈ wsX100, w ∈ wsX10_imageOf := fun w h => List.mem_cons_of_mem _ (List.mem_append_right _ h)
  refine lv_iload_n hx hb dX10_imageOf_0 rfl (lv_at hl 1 rfl) ?_
  refine j_if_ne (tgt := 11) hx hb (by omega) dX10_imageOf_1 (by decide) (fun c_1 => ?_) (fun c_1 => ?_)
  · exact False.elim (by omega)
  · refine lv_aload_n hx hb dX10_imageOf_4 rfl (lv_at hl 0 rfl) ?_
    refine va_get (D := D) (ci := 10) (v := .ref h15) (C := RX10) (T := TX10) (N := 18) hx hb hts UX10 hown hK hP 0 rfl rfl 5 (by decide) L45 (fun _ h9 => h9) rfl dX10_imageOf_5 ?_
    refine lv_goto (tgt := 15) hx hb dX10_imageOf_8 (by decide) ?_
    rw [hQ]; exact jr_aret hx hb hr (Or.inl ⟨_, rfl⟩) hlocks rfl dX10_imageOf_15
abbrev rmX10_imageOfB : Room := { frames := 0, cells := 0, slots := 0, locals := 0 }
set_option maxHeartbeats 4000000 in
set_option maxRecDepth 100000 in
theorem c_X10_imageOfB (l : Launch) (D : va_G) (cI cZ : ClassId) (z : jZT) (h0 h20 h21 h10 h12 h14 h15 h16 h8 h1 h6 h2 h3 h17 h18 h19 : Nat) (tk9 lt tra : Int) : jRd l yX10_imageOf wsX10_imageOf rmX10_imageOfB [.ref h0, .int (iI (1))] D cI cZ z [(h0, .inr (10, [.ref h20, .ref h21, .ref h10, .ref h12, .ref h14, .ref h15, .ref h16, .ref h8, .ref h1, .ref h6, .ref h2, .ref h3, .ref h17, .ref h18, .int (iI (tk9)), .ref h19, .int (iI (lt)), .long (lI (tra))]))] (some (.ref h16)) := by
  refine jRd_of (cc := cX10_imageOf) (n := 2) (ret := (some (.object "TinMouse$Image"))) (by decide) rfl (Nat.le_of_ble_eq_true rfl) ?_
  intro p e s m below meth c A ls args Q hQ F hA hZ hP hK hD hS hl
  obtain ⟨hx, hb, hr, hml, hown, hts, hlocks⟩ := F
  have hown : s.vm.findClass RX10 = some m.cls := hown
  have hl : lv_has ls 2 [(0, .ref h0), (1, .int (iI (1)))] := hl
  have L49 := hts (.fieldLink RX10 49 "TinMouse" "secondImage" "LTinMouse$Image;") (by decide +kernel)
  have UX10 : ∀ w ∈ wsX100, w ∈ wsX10_imageOf := fun w h => List.mem_cons_of_mem _ (List.mem_append_right _ h)
  refine lv_iload_n hx hb dX10_imageOf_0 rfl (lv_at hl 1 rfl) ?_
  refine j_if_ne (tgt := 11) hx hb (by omega) dX10_imageOf_1 (by decide) (fun c_1 => ?_) (fun c_1 => ?_)
  · refine lv_aload_n hx hb dX10_imageOf_11 rfl (lv_at hl 0 rfl) ?_
    refine va_get (D := D) (ci := 10) (v := .ref h16) (C := RX10) (T := TX10) (N := 18) hx hb hts UX10 hown hK hP 0 rfl rfl 6 (by decide) L49 (fun _ h9 => h9) rfl dX10_imageOf_12 ?_
    rw [hQ]; exact jr_aret hx hb hr (Or.inl ⟨_, rfl⟩) hlocks rfl dX10_imageOf_15
  · exact False.elim (by omega)
theorem hsX10_imageOf : yX10_imageOf.cls ≠ "java/lang/invoke/MethodHandle" ∧ yX10_imageOf.cls ≠ "java/lang/invoke/VarHandle" ∧ (parseMethodDescriptor yX10_imageOf.desc).map (fun d => d.parameters.length) = some 1 := by decide +kernel
theorem hvX10_imageOf : yX10_imageOf.cls = RX10 ∧ yX10_imageOf.cls ≠ "java/lang/invoke/MethodHandle" ∧ yX10_imageOf.cls ≠ "java/lang/invoke/VarHandle" ∧ (parseMethodDescriptor yX10_imageOf.desc).map (fun d => d.parameters.length) = some 1 := ⟨rfl, hsX10_imageOf⟩
theorem hsX4_copy : yX4_copy.cls ≠ "java/lang/invoke/MethodHandle" ∧ yX4_copy.cls ≠ "java/lang/invoke/VarHandle" ∧ (parseMethodDescriptor yX4_copy.desc).map (fun d => d.parameters.length) = some 1 := by decide +kernel
theorem hvX4_copy : yX4_copy.cls = RX4 ∧ yX4_copy.cls ≠ "java/lang/invoke/MethodHandle" ∧ yX4_copy.cls ≠ "java/lang/invoke/VarHandle" ∧ (parseMethodDescriptor yX4_copy.desc).map (fun d => d.parameters.length) = some 1 := ⟨rfl, hsX4_copy⟩
abbrev rmX10_keepA : Room := { frames := 2, cells := 0, slots := 0, locals := 43 }
set_option maxHeartbeats 4000000 in
set_option maxRecDepth 100000 in
theorem c_X10_keepA (l : Launch) (D : va_G) (cI cZ : ClassId) (z : jZT) (h0 h20 h21 h10 h12 h14 h15 h16 h8 h1 h6 h2 h3 h17 h18 h19 h24 : Nat) (tk9 lt tra nk nd nb nsp nst nmo ntu nri nla nro ili nki ndi nbi nspi nsti nmoi ntui nrii nlai nroi : Int) (iki : Bool) : jMu (S := Unit) l yX10_keep wsX10_keep rmX10_keepA [.ref h0, .int (iI (0))] D cI cZ z [(h0, .inr (10, [.ref h20, .ref h21, .ref h10, .ref h12, .ref h14, .ref h15, .ref h16, .ref h8, .ref h1, .ref h6, .ref h2, .ref h3, .ref h17, .ref h18, .int (iI (tk9)), .ref h19, .int (iI (lt)), .long (lI (tra))])), (h14, .inr (4, [.int (iI (nk)), .int (iI (nd)), .int (iI (nb)), .int (iI (nsp)), .int (iI (nst)), .int (iI (nmo)), .int (iI (ntu)), .int (iI (nri)), .int (iI (nla)), .int (iI (nro))])), (h15, .inr (0, [.ref h24, .int (iI (ili)), .int (iI (bI iki))])), (h24, .inr (4, [.int (iI (nki)), .int (iI (ndi)), .int (iI (nbi)), .int (iI (nspi)), .int (iI (nsti)), .int (iI (nmoi)), .int (iI (ntui)), .int (iI (nrii)), .int (iI (nlai)), .int (iI (nroi))]))] (fun u => some (.int (iI (nst)))) (fun u => True) (fun u => [(h0, .inr (10, [.ref h20, .ref h21, .ref h10, .ref h12, .ref h14, .ref h15, .ref h16, .ref h8, .ref h1, .ref h6, .ref h2, .ref h3, .ref h17, .ref h18, .int (iI (tk9)), .ref h19, .int (iI (lt)), .long (lI (tra))])), (h14, .inr (4, [.int (iI (nk)), .int (iI (nd)), .int (iI (nb)), .int (iI (nsp)), .int (iI (nst)), .int (iI (nmo)), .int (iI (ntu)), .int (iI (nri)), .int (iI (nla)), .int (iI (nro))])), (h15, .inr (0, [.ref h24, .int (iI (lt)), .int (iI (1))])), (h24, .inr (4, [.int (iI (nk)), .int (iI (nd)), .int (iI (nb)), .int (iI (nsp)), .int (iI (nst)), .int (iI (nmo)), .int (iI (ntu)), .int (iI (nri)), .int (iI (nla)), .int (iI (nro))]))]) := by
  refine jMu_of (cc := cX10_keep) (n := 3) (ret := (some .int)) (by decide) rfl (Nat.le_of_ble_eq_true rfl) ?_
  intro p e s m below meth c A ls args Q hQ F hA hZ hP hK hD hS hl
  obtain ⟨hx, hb, hr, hml, hown, hts, hlocks⟩ := F
  have hown : s.vm.findClass RX10 = some m.cls := hown
  have hl : lv_has ls 3 [(0, .ref h0), (1, .int (iI (0)))] := hl
  have L377 := hts (.fieldLink RX10 377 "TinMouse$Image" "now" "LTinMouse$Now;") (by decide +kernel)
  have L38 := hts (.fieldLink RX10 38 "TinMouse" "now" "LTinMouse$Now;") (by decide +kernel)
  have L103 := hts (.fieldLink RX10 103 "TinMouse" "lot" "I") (by decide +kernel)
  have L382 := hts (.fieldLink RX10 382 "TinMouse$Image" "lot" "I") (by decide +kernel)
  have L124 := hts (.fieldLink RX10 124 "TinMouse$Image" "kept" "Z") (by decide +kernel)
  have L192 := hts (.fieldLink RX10 192 "TinMouse$Now" "steps" "I") (by decide +kernel)
  have UX0 : ∀ w ∈ wsX00, w ∈ wsX10_keep := fun w h => List.mem_cons_of_mem _ (List.mem_append_left _ (List.mem_append_left _ (List.mem_append_right _ h)))
  have UX10 : ∀ w ∈ wsX100, w ∈ wsX10_keep := fun w h => List.mem_cons_of_mem _ (List.mem_append_left _ (List.mem_append_right _ h))
  have UX4 : ∀ w ∈ wsX40, w ∈ wsX10_keep := fun w h => List.mem_cons_of_mem _ (List.mem_append_right _ h)
  refine lv_iload_n hx hb dX10_keep_0 rfl (lv_at hl 1 rfl) ?_
  refine j_if_lt (tgt := 9) hx hb (by omega) dX10_keep_1 (by decide) (fun c_1 => ?_) (fun c_1 => ?_)
  · exact False.elim (by omega)
  · refine lv_iload_n hx hb dX10_keep_4 rfl (lv_at hl 1 rfl) ?_
    refine lv_iconst (v := iI (1)) hx hb dX10_keep_5 rfl ?_
    refine j_icmp_le (tgt := 11) hx hb (by omega) dX10_keep_6 (by decide) (fun c_6 => ?_) (fun c_6 => ?_)
    · refine lv_aload_n hx hb dX10_keep_11 rfl (lv_at hl 0 rfl) ?_
      refine lv_iload_n hx hb dX10_keep_12 rfl (lv_at hl 1 rfl) ?_
      refine j_rd (va_runV (As := [.int (iI (0))]) (rest := []) ⟨hx, hb, hml, hown, hts⟩ (c_X10_imageOfA l D cI cZ z h0 h20 h21 h10 h12 h14 h15 h16 h8 h1 h6 h2 h3 h17 h18 h19 tk9 lt tra  s.heap.size) (cwV 1 hts gX10_keep_X10_imageOf rfl rfl rfl hvX10_imageOf ⟨Nat.le_of_ble_eq_true rfl, Nat.le_of_ble_eq_true rfl⟩) (j_preV hP hD hK hS hZ hA [0] rfl rfl 0 rfl rfl) rfl rfl hl.1 rfl (lv_room (Nat.le_of_ble_eq_true rfl)) dX10_keep_13 ⟨Nat.zero_le _, Nat.zero_le _⟩) ?_
      refine lv_astore_n (lv' := [(2, .ref h15), (0, .ref h0), (1, .int (iI (0)))]) hx hb dX10_keep_16 rfl hl (by decide) rfl (fun ls hl => ?_)
      refine lv_aload_n hx hb dX10_keep_17 rfl (lv_at hl 0 rfl) ?_
      refine va_get (D := D) (ci := 0) (v := .ref h24) (C := RX0) (T := TX0) (N := 3) hx hb hts UX0 hown hK hP 2 rfl rfl 0 (by decide) L377 (fun _ h9 => h9) rfl dX10_keep_18 ?_
      refine lv_aload_n hx hb dX10_keep_21 rfl (lv_at hl 1 rfl) ?_
      refine va_get (D := D) (ci := 10) (v := .ref h14) (C := RX10) (T := TX10) (N := 18) hx hb hts UX10 hown hK hP 0 rfl rfl 4 (by decide) L38 (fun _ h9 => h9) rfl dX10_keep_22 ?_
      refine j_muv (va_runV (As := [.ref h14]) (rest := []) ⟨hx, hb, hml, hown, hts⟩ (c_X4_copy l D cI cZ z h24 h14 nki ndi nbi nspi nsti nmoi ntui nrii nlai nroi nk nd nb nsp nst nmo ntu nri nla nro  s.heap.size) (cwV 1 hts gX10_keep_X4_copy rfl rfl rfl hvX4_copy ⟨Nat.le_of_ble_eq_true rfl, Nat.le_of_ble_eq_true rfl⟩) (j_preV hP hD hK hS hZ hA [3, 1] rfl rfl 3 rfl rfl) rfl rfl hl.1 rfl (lv_room (Nat.le_of_ble_eq_true rfl)) dX10_keep_25 ⟨Nat.zero_le _, Nat.zero_le _⟩) hP hD hS hA [3, 1] rfl (fun _ => rfl) (fun _ H locs hw_25 hP hD hS => ?_)
      have hP : va_P D vwCl [(h0, .inr (10, [.ref h20, .ref h21, .ref h10, .ref h12, .ref h14, .ref h15, .ref h16, .ref h8, .ref h1, .ref h6, .ref h2, .ref h3, .ref h17, .ref h18, .int (iI (tk9)), .ref h19, .int (iI (lt)), .long (lI (tra))])), (h14, .inr (4, [.int (iI (nk)), .int (iI (nd)), .int (iI (nb)), .int (iI (nsp)), .int (iI (nst)), .int (iI (nmo)), .int (iI (ntu)), .int (iI (nri)), .int (iI (nla)), .int (iI (nro))])), (h15, .inr (0, [.ref h24, .int (iI (ili)), .int (iI (bI iki))])), (h24, .inr (4, [.int (iI (nk)), .int (iI (nd)), .int (iI (nb)), .int (iI (nsp)), .int (iI (nst)), .int (iI (nmo)), .int (iI (ntu)), .int (iI (nri)), .int (iI (nla)), .int (iI (nro))]))] H := hP
      have hD : va_D A [(h0, .inr (10, [.ref h20, .ref h21, .ref h10, .ref h12, .ref h14, .ref h15, .ref h16, .ref h8, .ref h1, .ref h6, .ref h2, .ref h3, .ref h17, .ref h18, .int (iI (tk9)), .ref h19, .int (iI (lt)), .long (lI (tra))])), (h14, .inr (4, [.int (iI (nk)), .int (iI (nd)), .int (iI (nb)), .int (iI (nsp)), .int (iI (nst)), .int (iI (nmo)), .int (iI (ntu)), .int (iI (nri)), .int (iI (nla)), .int (iI (nro))])), (h15, .inr (0, [.ref h24, .int (iI (ili)), .int (iI (bI iki))])), (h24, .inr (4, [.int (iI (nk)), .int (iI (nd)), .int (iI (nb)), .int (iI (nsp)), .int (iI (nst)), .int (iI (nmo)), .int (iI (ntu)), .int (iI (nri)), .int (iI (nla)), .int (iI (nro))]))] := hD
      refine lv_aload_n hx hb dX10_keep_28 rfl (lv_at hl 0 rfl) ?_
      refine lv_aload_n hx hb dX10_keep_29 rfl (lv_at hl 1 rfl) ?_
      refine va_get (D := D) (ci := 10) (v := .int (iI (lt))) (C := RX10) (T := TX10) (N := 18) hx hb hts UX10 hown hK hP 0 rfl rfl 16 (by decide) L103 (fun _ h9 => h9) rfl dX10_keep_30 ?_
      refine va_put (D := D) (ci := 0) (v := .int (iI (lt))) (ty := .int) (C := RX0) (T := TX0) (N := 3) hx hb hts UX0 tyX0 tyX0_ok nmX0 hown hK hP hD hS 2 rfl rfl 1 (by decide) L382 (fun _ h9 => h9) rfl rfl rfl rfl (Nat.le_of_ble_eq_true rfl) dX10_keep_33 (fun H locs hP hD hS => ?_)
      have hP : va_P D vwCl [(h0, .inr (10, [.ref h20, .ref h21, .ref h10, .ref h12, .ref h14, .ref h15, .ref h16, .ref h8, .ref h1, .ref h6, .ref h2, .ref h3, .ref h17, .ref h18, .int (iI (tk9)), .ref h19, .int (iI (lt)), .long (lI (tra))])), (h14, .inr (4, [.int (iI (nk)), .int (iI (nd)), .int (iI (nb)), .int (iI (nsp)), .int (iI (nst)), .int (iI (nmo)), .int (iI (ntu)), .int (iI (nri)), .int (iI (nla)), .int (iI (nro))])), (h15, .inr (0, [.ref h24, .int (iI (lt)), .int (iI (bI iki))])), (h24, .inr (4, [.int (iI (nk)), .int (iI (nd)), .int (iI (nb)), .int (iI (nsp)), .int (iI (nst)), .int (iI (nmo)), .int (iI (ntu)), .int (iI (nri)), .int (iI (nla)), .int (iI (nro))]))] H := hP
      have hD : va_D A [(h0, .inr (10, [.ref h20, .ref h21, .ref h10, .ref h12, .ref h14, .ref h15, .ref h16, .ref h8, .ref h1, .ref h6, .ref h2, .ref h3, .ref h17, .ref h18, .int (iI (tk9)), .ref h19, .int (iI (lt)), .long (lI (tra))])), (h14, .inr (4, [.int (iI (nk)), .int (iI (nd)), .int (iI (nb)), .int (iI (nsp)), .int (iI (nst)), .int (iI (nmo)), .int (iI (ntu)), .int (iI (nri)), .int (iI (nla)), .int (iI (nro))])), (h15, .inr (0, [.ref h24, .int (iI (lt)), .int (iI (bI iki))])), (h24, .inr (4, [.int (iI (nk)), .int (iI (nd)), .int (iI (nb)), .int (iI (nsp)), .int (iI (nst)), .int (iI (nmo)), .int (iI (ntu)), .int (iI (nri)), .int (iI (nla)), .int (iI (nro))]))] := hD
      refine lv_aload_n hx hb dX10_keep_36 rfl (lv_at hl 0 rfl) ?_
      refine lv_iconst (v := iI (1)) hx hb dX10_keep_37 rfl ?_
      refine va_put (D := D) (ci := 0) (v := .int (iI (1))) (ty := .boolean) (C := RX0) (T := TX0) (N := 3) hx hb hts UX0 tyX0 tyX0_ok nmX0 hown hK hP hD hS 2 rfl rfl 2 (by decide) L124 (fun _ h9 => h9) rfl rfl (by exact jn_1) (by rfl) (Nat.le_of_ble_eq_true rfl) dX10_keep_38 (fun H locs hP hD hS => ?_)
      have hP : va_P D vwCl [(h0, .inr (10, [.ref h20, .ref h21, .ref h10, .ref h12, .ref h14, .ref h15, .ref h16, .ref h8, .ref h1, .ref h6, .ref h2, .ref h3, .ref h17, .ref h18, .int (iI (tk9)), .ref h19, .int (iI (lt)), .long (lI (tra))])), (h14, .inr (4, [.int (iI (nk)), .int (iI (nd)), .int (iI (nb)), .int (iI (nsp)), .int (iI (nst)), .int (iI (nmo)), .int (iI (ntu)), .int (iI (nri)), .int (iI (nla)), .int (iI (nro))])), (h15, .inr (0, [.ref h24, .int (iI (lt)), .int (iI (1))])), (h24, .inr (4, [.int (iI (nk)), .int (iI (nd)), .int (iI (nb)), .int (iI (nsp)), .int (iI (nst)), .int (iI (nmo)), .int (iI (ntu)), .int (iI (nri)), .int (iI (nla)), .int (iI (nro))]))] H := hP
      have hD : va_D A [(h0, .inr (10, [.ref h20, .ref h21, .ref h10, .ref h12, .ref h14, .ref h15, .ref h16, .ref h8, .ref h1, .ref h6, .ref h2, .ref h3, .ref h17, .ref h18, .int (iI (tk9)), .ref h19, .int (iI (lt)), .long (lI (tra))])), (h14, .inr (4, [.int (iI (nk)), .int (iI (nd)), .int (iI (nb)), .int (iI (nsp)), .int (iI (nst)), .int (iI (nmo)), .int (iI (ntu)), .int (iI (nri)), .int (iI (nla)), .int (iI (nro))])), (h15, .inr (0, [.ref h24, .int (iI (lt)), .int (iI (1))])), (h24, .inr (4, [.int (iI (nk)), .int (iI (nd)), .int (iI (nb)), .int (iI (nsp)), .int (iI (nst)), .int (iI (nmo)), .int (iI (ntu)), .int (iI (nri)), .int (iI (nla)), .int (iI (nro))]))] := hD
      refine lv_aload_n hx hb dX10_keep_41 rfl (lv_at hl 1 rfl) ?_
      refine va_get (D := D) (ci := 10) (v := .ref h14) (C := RX10) (T := TX10) (N := 18) hx hb hts UX10 hown hK hP 0 rfl rfl 4 (by decide) L38 (fun _ h9 => h9) rfl dX10_keep_42 ?_
      refine va_get (D := D) (ci := 4) (v := .int (iI (nst))) (C := RX4) (T := TX4) (N := 10) hx hb hts UX4 hown hK hP 1 rfl rfl 4 (by decide) L192 (fun _ h9 => h9) rfl dX10_keep_45 ?_
      rw [hQ]; exact jm_iret () hx hb hr hlocks hS hP rfl trivial dX10_keep_48
    · exact False.elim (by omega)
abbrev rmX10_keepB : Room := { frames := 2, cells := 0, slots := 0, locals := 43 }
set_option maxHeartbeats 4000000 in
set_option maxRecDepth 100000 in
theorem c_X10_keepB (l : Launch) (D : va_G) (cI cZ : ClassId) (z : jZT) (h0 h20 h21 h10 h12 h14 h15 h16 h8 h1 h6 h2 h3 h17 h18 h19 h25 : Nat) (tk9 lt tra nk nd nb nsp nst nmo ntu nri nla nro ili nki ndi nbi nspi nsti nmoi ntui nrii nlai nroi : Int) (iki : Bool) : jMu (S := Unit) l yX10_keep wsX10_keep rmX10_keepB [.ref h0, .int (iI (1))] D cI cZ z [(h0, .inr (10, [.ref h20, .ref h21, .ref h10, .ref h12, .ref h14, .ref h15, .ref h16, .ref h8, .ref h1, .ref h6, .ref h2, .ref h3, .ref h17, .ref h18, .int (iI (tk9)), .ref h19, .int (iI (lt)), .long (lI (tra))])), (h14, .inr (4, [.int (iI (nk)), .int (iI (nd)), .int (iI (nb)), .int (iI (nsp)), .int (iI (nst)), .int (iI (nmo)), .int (iI (ntu)), .int (iI (nri)), .int (iI (nla)), .int (iI (nro))])), (h16, .inr (0, [.ref h25, .int (iI (ili)), .int (iI (bI iki))])), (h25, .inr (4, [.int (iI (nki)), .int (iI (ndi)), .int (iI (nbi)), .int (iI (nspi)), .int (iI (nsti)), .int (iI (nmoi)), .int (iI (ntui)), .int (iI (nrii)), .int (iI (nlai)), .int (iI (nroi))]))] (fun u => some (.int (iI (nst)))) (fun u => True) (fun u => [(h0, .inr (10, [.ref h20, .ref h21, .ref h10, .ref h12, .ref h14, .ref h15, .ref h16, .ref h8, .ref h1, .ref h6, .ref h2, .ref h3, .ref h17, .ref h18, .int (iI (tk9)), .ref h19, .int (iI (lt)), .long (lI (tra))])), (h14, .inr (4, [.int (iI (nk)), .int (iI (nd)), .int (iI (nb)), .int (iI (nsp)), .int (iI (nst)), .int (iI (nmo)), .int (iI (ntu)), .int (iI (nri)), .int (iI (nla)), .int (iI (nro))])), (h16, .inr (0, [.ref h25, .int (iI (lt)), .int (iI (1))])), (h25, .inr (4, [.int (iI (nk)), .int (iI (nd)), .int (iI (nb)), .int (iI (nsp)), .int (iI (nst)), .int (iI (nmo)), .int (iI (ntu)), .int (iI (nri)), .int (iI (nla)), .int (iI (nro))]))]) := by
  refine jMu_of (cc := cX10_keep) (n := 3) (ret := (some .int)) (by decide) rfl (Nat.le_of_ble_eq_true rfl) ?_
  intro p e s m below meth c A ls args Q hQ F hA hZ hP hK hD hS hl
  obtain ⟨hx, hb, hr, hml, hown, hts, hlocks⟩ := F
  have hown : s.vm.findClass RX10 = some m.cls := hown
  have hl : lv_has ls 3 [(0, .ref h0), (1, .int (iI (1)))] := hl
  have L377 := hts (.fieldLink RX10 377 "TinMouse$Image" "now" "LTinMouse$Now;") (by decide +kernel)
  have L38 := hts (.fieldLink RX10 38 "TinMouse" "now" "LTinMouse$Now;") (by decide +kernel)
  have L103 := hts (.fieldLink RX10 103 "TinMouse" "lot" "I") (by decide +kernel)
  have L382 := hts (.fieldLink RX10 382 "TinMouse$Image" "lot" "I") (by decide +kernel)
  have L124 := hts (.fieldLink RX10 124 "TinMouse$Image" "kept" "Z") (by decide +kernel)
  have L192 := hts (.fieldLink RX10 192 "TinMouse$Now" "steps" "I") (by decide +kernel)
  have UX0 : ∀ w ∈ wsX00, w ∈ wsX10_keep := fun w h => List.mem_cons_of_mem _ (List.mem_append_left _ (List.mem_append_left _ (List.mem_append_right _ h)))
  have UX10 : ∀ w ∈ wsX100, w ∈ wsX10_keep := fun w h => List.mem_cons_of_mem _ (List.mem_append_left _ (List.mem_append_right _ h))
  have UX4 : ∀ w ∈ wsX40, w ∈ wsX10_keep := fun w h => List.mem_cons_of_mem _ (List.mem_append_right _ h)
  refine lv_iload_n hx hb dX10_keep_0 rfl (lv_at hl 1 rfl) ?_
  refine j_if_lt (tgt := 9) hx hb (by omega) dX10_keep_1 (by decide) (fun c_1 => ?_) (fun c_1 => ?_)
  · exact False.elim (by omega)
  · refine lv_iload_n hx hb dX10_keep_4 rfl (lv_at hl 1 rfl) ?_
    refine lv_iconst (v := iI (1)) hx hb dX10_keep_5 rfl ?_
    refine j_icmp_le (tgt := 11) hx hb (by omega) dX10_keep_6 (by decide) (fun c_6 => ?_) (fun c_6 => ?_)
    · refine lv_aload_n hx hb dX10_keep_11 rfl (lv_at hl 0 rfl) ?_
      refine lv_iload_n hx hb dX10_keep_12 rfl (lv_at hl 1 rfl) ?_
      refine j_rd (va_runV (As := [.int (iI (1))]) (rest := []) ⟨hx, hb, hml, hown, hts⟩ (c_X10_imageOfB l D cI cZ z h0 h20 h21 h10 h12 h14 h15 h16 h8 h1 h6 h2 h3 h17 h18 h19 tk9 lt tra  s.heap.size) (cwV 1 hts gX10_keep_X10_imageOf rfl rfl rfl hvX10_imageOf ⟨Nat.le_of_ble_eq_true rfl, Nat.le_of_ble_eq_true rfl⟩) (j_preV hP hD hK hS hZ hA [0] rfl rfl 0 rfl rfl) rfl rfl hl.1 rfl (lv_room (Nat.le_of_ble_eq_true rfl)) dX10_keep_13 ⟨Nat.zero_le _, Nat.zero_le _⟩) ?_
      refine lv_astore_n (lv' := [(2, .ref h16), (0, .ref h0), (1, .int (iI (1)))]) hx hb dX10_keep_16 rfl hl (by decide) rfl (fun ls hl => ?_)
      refine lv_aload_n hx hb dX10_keep_17 rfl (lv_at hl 0 rfl) ?_
      refine va_get (D := D) (ci := 0) (v := .ref h25) (C := RX0) (T := TX0) (N := 3) hx hb hts UX0 hown hK hP 2 rfl rfl 0 (by decide) L377 (fun _ h9 => h9) rfl dX10_keep_18 ?_
      refine lv_aload_n hx hb dX10_keep_21 rfl (lv_at hl 1 rfl) ?_
      refine va_get (D := D) (ci := 10) (v := .ref h14) (C := RX10) (T := TX10) (N := 18) hx hb hts UX10 hown hK hP 0 rfl rfl 4 (by decide) L38 (fun _ h9 => h9) rfl dX10_keep_22 ?_
      refine j_muv (va_runV (As := [.ref h14]) (rest := []) ⟨hx, hb, hml, hown, hts⟩ (c_X4_copy l D cI cZ z h25 h14 nki ndi nbi nspi nsti nmoi ntui nrii nlai nroi nk nd nb nsp nst nmo ntu nri nla nro  s.heap.size) (cwV 1 hts gX10_keep_X4_copy rfl rfl rfl hvX4_copy ⟨Nat.le_of_ble_eq_true rfl, Nat.le_of_ble_eq_true rfl⟩) (j_preV hP hD hK hS hZ hA [3, 1] rfl rfl 3 rfl rfl) rfl rfl hl.1 rfl (lv_room (Nat.le_of_ble_eq_true rfl)) dX10_keep_25 ⟨Nat.zero_le _, Nat.zero_le _⟩) hP hD hS hA [3, 1] rfl (fun _ => rfl) (fun _ H locs hw_25 hP hD hS => ?_)
      have hP : va_P D vwCl [(h0, .inr (10, [.ref h20, .ref h21, .ref h10, .ref h12, .ref h14, .ref h15, .ref h16, .ref h8, .ref h1, .ref h6, .ref h2, .ref h3, .ref h17, .ref h18, .int (iI (tk9)), .ref h19, .int (iI (lt)), .long (lI (tra))])), (h14, .inr (4, [.int (iI (nk)), .int (iI (nd)), .int (iI (nb)), .int (iI (nsp)), .int (iI (nst)), .int (iI (nmo)), .int (iI (ntu)), .int (iI (nri)), .int (iI (nla)), .int (iI (nro))])), (h16, .inr (0, [.ref h25, .int (iI (ili)), .int (iI (bI iki))])), (h25, .inr (4, [.int (iI (nk)), .int (iI (nd)), .int (iI (nb)), .int (iI (nsp)), .int (iI (nst)), .int (iI (nmo)), .int (iI (ntu)), .int (iI (nri)), .int (iI (nla)), .int (iI (nro))]))] H := hP
      have hD : va_D A [(h0, .inr (10, [.ref h20, .ref h21, .ref h10, .ref h12, .ref h14, .ref h15, .ref h16, .ref h8, .ref h1, .ref h6, .ref h2, .ref h3, .ref h17, .ref h18, .int (iI (tk9)), .ref h19, .int (iI (lt)), .long (lI (tra))])), (h14, .inr (4, [.int (iI (nk)), .int (iI (nd)), .int (iI (nb)), .int (iI (nsp)), .int (iI (nst)), .int (iI (nmo)), .int (iI (ntu)), .int (iI (nri)), .int (iI (nla)), .int (iI (nro))])), (h16, .inr (0, [.ref h25, .int (iI (ili)), .int (iI (bI iki))])), (h25, .inr (4, [.int (iI (nk)), .int (iI (nd)), .int (iI (nb)), .int (iI (nsp)), .int (iI (nst)), .int (iI (nmo)), .int (iI (ntu)), .int (iI (nri)), .int (iI (nla)), .int (iI (nro))]))] := hD
      refine lv_aload_n hx hb dX10_keep_28 rfl (lv_at hl 0 rfl) ?_
      refine lv_aload_n hx hb dX10_keep_29 rfl (lv_at hl 1 rfl) ?_
      refine va_get (D := D) (ci := 10) (v := .int (iI (lt))) (C := RX10) (T := TX10) (N := 18) hx hb hts UX10 hown hK hP 0 rfl rfl 16 (by decide) L103 (fun _ h9 => h9) rfl dX10_keep_30 ?_
      refine va_put (D := D) (ci := 0) (v := .int (iI (lt))) (ty := .int) (C := RX0) (T := TX0) (N := 3) hx hb hts UX0 tyX0 tyX0_ok nmX0 hown hK hP hD hS 2 rfl rfl 1 (by decide) L382 (fun _ h9 => h9) rfl rfl rfl rfl (Nat.le_of_ble_eq_true rfl) dX10_keep_33 (fun H locs hP hD hS => ?_)
      have hP : va_P D vwCl [(h0, .inr (10, [.ref h20, .ref h21, .ref h10, .ref h12, .ref h14, .ref h15, .ref h16, .ref h8, .ref h1, .ref h6, .ref h2, .ref h3, .ref h17, .ref h18, .int (iI (tk9)), .ref h19, .int (iI (lt)), .long (lI (tra))])), (h14, .inr (4, [.int (iI (nk)), .int (iI (nd)), .int (iI (nb)), .int (iI (nsp)), .int (iI (nst)), .int (iI (nmo)), .int (iI (ntu)), .int (iI (nri)), .int (iI (nla)), .int (iI (nro))])), (h16, .inr (0, [.ref h25, .int (iI (lt)), .int (iI (bI iki))])), (h25, .inr (4, [.int (iI (nk)), .int (iI (nd)), .int (iI (nb)), .int (iI (nsp)), .int (iI (nst)), .int (iI (nmo)), .int (iI (ntu)), .int (iI (nri)), .int (iI (nla)), .int (iI (nro))]))] H := hP
      have hD : va_D A [(h0, .inr (10, [.ref h20, .ref h21, .ref h10, .ref h12, .ref h14, .ref h15, .ref h16, .ref h8, .ref h1, .ref h6, .ref h2, .ref h3, .ref h17, .ref h18, .int (iI (tk9)), .ref h19, .int (iI (lt)), .long (lI (tra))])), (h14, .inr (4, [.int (iI (nk)), .int (iI (nd)), .int (iI (nb)), .int (iI (nsp)), .int (iI (nst)), .int (iI (nmo)), .int (iI (ntu)), .int (iI (nri)), .int (iI (nla)), .int (iI (nro))])), (h16, .inr (0, [.ref h25, .int (iI (lt)), .int (iI (bI iki))])), (h25, .inr (4, [.int (iI (nk)), .int (iI (nd)), .int (iI (nb)), .int (iI (nsp)), .int (iI (nst)), .int (iI (nmo)), .int (iI (ntu)), .int (iI (nri)), .int (iI (nla)), .int (iI (nro))]))] := hD
      refine lv_aload_n hx hb dX10_keep_36 rfl (lv_at hl 0 rfl) ?_
      refine lv_iconst (v := iI (1)) hx hb dX10_keep_37 rfl ?_
      refine va_put (D := D) (ci := 0) (v := .int (iI (1))) (ty := .boolean) (C := RX0) (T := TX0) (N := 3) hx hb hts UX0 tyX0 tyX0_ok nmX0 hown hK hP hD hS 2 rfl rfl 2 (by decide) L124 (fun _ h9 => h9) rfl rfl (by exact jn_1) (by rfl) (Nat.le_of_ble_eq_true rfl) dX10_keep_38 (fun H locs hP hD hS => ?_)
      have hP : va_P D vwCl [(h0, .inr (10, [.ref h20, .ref h21, .ref h10, .ref h12, .ref h14, .ref h15, .ref h16, .ref h8, .ref h1, .ref h6, .ref h2, .ref h3, .ref h17, .ref h18, .int (iI (tk9)), .ref h19, .int (iI (lt)), .long (lI (tra))])), (h14, .inr (4, [.int (iI (nk)), .int (iI (nd)), .int (iI (nb)), .int (iI (nsp)), .int (iI (nst)), .int (iI (nmo)), .int (iI (ntu)), .int (iI (nri)), .int (iI (nla)), .int (iI (nro))])), (h16, .inr (0, [.ref h25, .int (iI (lt)), .int (iI (1))])), (h25, .inr (4, [.int (iI (nk)), .int (iI (nd)), .int (iI (nb)), .int (iI (nsp)), .int (iI (nst)), .int (iI (nmo)), .int (iI (ntu)), .int (iI (nri)), .int (iI (nla)), .int (iI (nro))]))] H := hP
      have hD : va_D A [(h0, .inr (10, [.ref h20, .ref h21, .ref h10, .ref h12, .ref h14, .ref h15, .ref h16, .ref h8, .ref h1, .ref h6, .ref h2, .ref h3, .ref h17, .ref h18, .int (iI (tk9)), .ref h19, .int (iI (lt)), .long (lI (tra))])), (h14, .inr (4, [.int (iI (nk)), .int (iI (nd)), .int (iI (nb)), .int (iI (nsp)), .int (iI (nst)), .int (iI (nmo)), .int (iI (ntu)), .int (iI (nri)), .int (iI (nla)), .int (iI (nro))])), (h16, .inr (0, [.ref h25, .int (iI (lt)), .int (iI (1))])), (h25, .inr (4, [.int (iI (nk)), .int (iI (nd)), .int (iI (nb)), .int (iI (nsp)), .int (iI (nst)), .int (iI (nmo)), .int (iI (ntu)), .int (iI (nri)), .int (iI (nla)), .int (iI (nro))]))] := hD
      refine lv_aload_n hx hb dX10_keep_41 rfl (lv_at hl 1 rfl) ?_
      refine va_get (D := D) (ci := 10) (v := .ref h14) (C := RX10) (T := TX10) (N := 18) hx hb hts UX10 hown hK hP 0 rfl rfl 4 (by decide) L38 (fun _ h9 => h9) rfl dX10_keep_42 ?_
      refine va_get (D := D) (ci := 4) (v := .int (iI (nst))) (C := RX4) (T := TX4) (N := 10) hx hb hts UX4 hown hK hP 1 rfl rfl 4 (by decide) L192 (fun _ h9 => h9) rfl dX10_keep_45 ?_
      rw [hQ]; exact jm_iret () hx hb hr hlocks hS hP rfl trivial dX10_keep_48
    · exact False.elim (by omega)
abbrev rmX10_backA : Room := { frames := 2, cells := 0, slots := 0, locals := 43 }
set_option maxHeartbeats 4000000 in
set_option maxRecDepth 100000 in
theorem c_X10_backA (l : Launch) (D : va_G) (cI cZ : ClassId) (z : jZT) (h0 h20 h21 h10 h12 h14 h15 h16 h8 h1 h6 h2 h3 h17 h18 h19 h24 : Nat) (tk9 lt tra nk nd nb nsp nst nmo ntu nri nla nro ili nki ndi nbi nspi nsti nmoi ntui nrii nlai nroi : Int) (iki : Bool) : jMu (S := Int × Int × Int × Int × Int × Int × Int × Int × Int × Int × Int × Int) l yX10_back wsX10_back rmX10_backA [.ref h0, .int (iI (0))] D cI cZ z [(h0, .inr (10, [.ref h20, .ref h21, .ref h10, .ref h12, .ref h14, .ref h15, .ref h16, .ref h8, .ref h1, .ref h6, .ref h2, .ref h3, .ref h17, .ref h18, .int (iI (tk9)), .ref h19, .int (iI (lt)), .long (lI (tra))])), (h14, .inr (4, [.int (iI (nk)), .int (iI (nd)), .int (iI (nb)), .int (iI (nsp)), .int (iI (nst)), .int (iI (nmo)), .int (iI (ntu)), .int (iI (nri)), .int (iI (nla)), .int (iI (nro))])), (h15, .inr (0, [.ref h24, .int (iI (ili)), .int (iI (bI iki))])), (h24, .inr (4, [.int (iI (nki)), .int (iI (ndi)), .int (iI (nbi)), .int (iI (nspi)), .int (iI (nsti)), .int (iI (nmoi)), .int (iI (ntui)), .int (iI (nrii)), .int (iI (nlai)), .int (iI (nroi))]))] (fun u => some (.int (iI (u.2.2.2.2.2.2.2.2.2.2.2)))) (fun u => ((u.1, u.2.1, u.2.2.1, u.2.2.2.1, u.2.2.2.2.1, u.2.2.2.2.2.1, u.2.2.2.2.2.2.1, u.2.2.2.2.2.2.2.1, u.2.2.2.2.2.2.2.2.1, u.2.2.2.2.2.2.2.2.2.1), u.2.2.2.2.2.2.2.2.2.2.1, u.2.2.2.2.2.2.2.2.2.2.2) = if iki = true then ((nki, ndi, nbi, nspi, nsti, nmoi, ntui, nrii, nlai, nroi), ili, nsti) else ((nk, nd, nb, nsp, nst, nmo, ntu, nri, nla, nro), lt, -2)) (fun u => [(h0, .inr (10, [.ref h20, .ref h21, .ref h10, .ref h12, .ref h14, .ref h15, .ref h16, .ref h8, .ref h1, .ref h6, .ref h2, .ref h3, .ref h17, .ref h18, .int (iI (tk9)), .ref h19, .int (iI (u.2.2.2.2.2.2.2.2.2.2.1)), .long (lI (tra))])), (h14, .inr (4, [.int (iI (u.1)), .int (iI (u.2.1)), .int (iI (u.2.2.1)), .int (iI (u.2.2.2.1)), .int (iI (u.2.2.2.2.1)), .int (iI (u.2.2.2.2.2.1)), .int (iI (u.2.2.2.2.2.2.1)), .int (iI (u.2.2.2.2.2.2.2.1)), .int (iI (u.2.2.2.2.2.2.2.2.1)), .int (iI (u.2.2.2.2.2.2.2.2.2.1))])), (h15, .inr (0, [.ref h24, .int (iI (ili)), .int (iI (bI iki))])), (h24, .inr (4, [.int (iI (nki)), .int (iI (ndi)), .int (iI (nbi)), .int (iI (nspi)), .int (iI (nsti)), .int (iI (nmoi)), .int (iI (ntui)), .int (iI (nrii)), .int (iI (nlai)), .int (iI (nroi))]))]) := by
  refine jMu_of (cc := cX10_back) (n := 3) (ret := (some .int)) (by decide) rfl (Nat.le_of_ble_eq_true rfl) ?_
  intro p e s m below meth c A ls args Q hQ F hA hZ hP hK hD hS hl
  obtain ⟨hx, hb, hr, hml, hown, hts, hlocks⟩ := F
  have hown : s.vm.findClass RX10 = some m.cls := hown
  have hl : lv_has ls 3 [(0, .ref h0), (1, .int (iI (0)))] := hl
  have L124 := hts (.fieldLink RX10 124 "TinMouse$Image" "kept" "Z") (by decide +kernel)
  have L38 := hts (.fieldLink RX10 38 "TinMouse" "now" "LTinMouse$Now;") (by decide +kernel)
  have L377 := hts (.fieldLink RX10 377 "TinMouse$Image" "now" "LTinMouse$Now;") (by decide +kernel)
  have L382 := hts (.fieldLink RX10 382 "TinMouse$Image" "lot" "I") (by decide +kernel)
  have L103 := hts (.fieldLink RX10 103 "TinMouse" "lot" "I") (by decide +kernel)
  have L192 := hts (.fieldLink RX10 192 "TinMouse$Now" "steps" "I") (by decide +kernel)
  have UX0 : ∀ w ∈ wsX00, w ∈ wsX10_back := fun w h => List.mem_cons_of_mem _ (List.mem_append_left _ (List.mem_append_left _ (List.mem_append_right _ h)))
  have UX10 : ∀ w ∈ wsX100, w ∈ wsX10_back := fun w h => List.mem_cons_of_mem _ (List.mem_append_left _ (List.mem_append_right _ h))
  have UX4 : ∀ w ∈ wsX40, w ∈ wsX10_back := fun w h => List.mem_cons_of_mem _ (List.mem_append_right _ h)
  refine lv_iload_n hx hb dX10_back_0 rfl (lv_at hl 1 rfl) ?_
  refine j_if_lt (tgt := 9) hx hb (by omega) dX10_back_1 (by decide) (fun c_1 => ?_) (fun c_1 => ?_)
  · exact False.elim (by omega)
  · refine lv_iload_n hx hb dX10_back_4 rfl (lv_at hl 1 rfl) ?_
    refine lv_iconst (v := iI (1)) hx hb dX10_back_5 rfl ?_
    refine j_icmp_le (tgt := 11) hx hb (by omega) dX10_back_6 (by decide) (fun c_6 => ?_) (fun c_6 => ?_)
    · refine lv_aload_n hx hb dX10_back_11 rfl (lv_at hl 0 rfl) ?_
      refine lv_iload_n hx hb dX10_back_12 rfl (lv_at hl 1 rfl) ?_
      refine j_rd (va_runV (As := [.int (iI (0))]) (rest := []) ⟨hx, hb, hml, hown, hts⟩ (c_X10_imageOfA l D cI cZ z h0 h20 h21 h10 h12 h14 h15 h16 h8 h1 h6 h2 h3 h17 h18 h19 tk9 lt tra  s.heap.size) (cwV 1 hts gX10_back_X10_imageOf rfl rfl rfl hvX10_imageOf ⟨Nat.le_of_ble_eq_true rfl, Nat.le_of_ble_eq_true rfl⟩) (j_preV hP hD hK hS hZ hA [0] rfl rfl 0 rfl rfl) rfl rfl hl.1 rfl (lv_room (Nat.le_of_ble_eq_true rfl)) dX10_back_13 ⟨Nat.zero_le _, Nat.zero_le _⟩) ?_
      refine lv_astore_n (lv' := [(2, .ref h15), (0, .ref h0), (1, .int (iI (0)))]) hx hb dX10_back_16 rfl hl (by decide) rfl (fun ls hl => ?_)
      refine lv_aload_n hx hb dX10_back_17 rfl (lv_at hl 0 rfl) ?_
      refine va_get (D := D) (ci := 0) (v := .int (iI (bI iki))) (C := RX0) (T := TX0) (N := 3) hx hb hts UX0 hown hK hP 2 rfl rfl 2 (by decide) L124 (fun _ h9 => h9) rfl dX10_back_18 ?_
      refine j_ifne_b (tgt := 27) hx hb dX10_back_21 (by decide) (fun c_21 => ?_) (fun c_21 => ?_)
      · refine lv_aload_n hx hb dX10_back_27 rfl (lv_at hl 1 rfl) ?_
        refine va_get (D := D) (ci := 10) (v := .ref h14) (C := RX10) (T := TX10) (N := 18) hx hb hts UX10 hown hK hP 0 rfl rfl 4 (by decide) L38 (fun _ h9 => h9) rfl dX10_back_28 ?_
        refine lv_aload_n hx hb dX10_back_31 rfl (lv_at hl 0 rfl) ?_
        refine va_get (D := D) (ci := 0) (v := .ref h24) (C := RX0) (T := TX0) (N := 3) hx hb hts UX0 hown hK hP 2 rfl rfl 0 (by decide) L377 (fun _ h9 => h9) rfl dX10_back_32 ?_
        refine j_muv (va_runV (As := [.ref h24]) (rest := []) ⟨hx, hb, hml, hown, hts⟩ (c_X4_copy l D cI cZ z h14 h24 nk nd nb nsp nst nmo ntu nri nla nro nki ndi nbi nspi nsti nmoi ntui nrii nlai nroi  s.heap.size) (cwV 1 hts gX10_back_X4_copy rfl rfl rfl hvX4_copy ⟨Nat.le_of_ble_eq_true rfl, Nat.le_of_ble_eq_true rfl⟩) (j_preV hP hD hK hS hZ hA [1, 3] rfl rfl 1 rfl rfl) rfl rfl hl.1 rfl (lv_room (Nat.le_of_ble_eq_true rfl)) dX10_back_35 ⟨Nat.zero_le _, Nat.zero_le _⟩) hP hD hS hA [1, 3] rfl (fun _ => rfl) (fun _ H locs hw_35 hP hD hS => ?_)
        have hP : va_P D vwCl [(h0, .inr (10, [.ref h20, .ref h21, .ref h10, .ref h12, .ref h14, .ref h15, .ref h16, .ref h8, .ref h1, .ref h6, .ref h2, .ref h3, .ref h17, .ref h18, .int (iI (tk9)), .ref h19, .int (iI (lt)), .long (lI (tra))])), (h14, .inr (4, [.int (iI (nki)), .int (iI (ndi)), .int (iI (nbi)), .int (iI (nspi)), .int (iI (nsti)), .int (iI (nmoi)), .int (iI (ntui)), .int (iI (nrii)), .int (iI (nlai)), .int (iI (nroi))])), (h15, .inr (0, [.ref h24, .int (iI (ili)), .int (iI (bI iki))])), (h24, .inr (4, [.int (iI (nki)), .int (iI (ndi)), .int (iI (nbi)), .int (iI (nspi)), .int (iI (nsti)), .int (iI (nmoi)), .int (iI (ntui)), .int (iI (nrii)), .int (iI (nlai)), .int (iI (nroi))]))] H := hP
        have hD : va_D A [(h0, .inr (10, [.ref h20, .ref h21, .ref h10, .ref h12, .ref h14, .ref h15, .ref h16, .ref h8, .ref h1, .ref h6, .ref h2, .ref h3, .ref h17, .ref h18, .int (iI (tk9)), .ref h19, .int (iI (lt)), .long (lI (tra))])), (h14, .inr (4, [.int (iI (nki)), .int (iI (ndi)), .int (iI (nbi)), .int (iI (nspi)), .int (iI (nsti)), .int (iI (nmoi)), .int (iI (ntui)), .int (iI (nrii)), .int (iI (nlai)), .int (iI (nroi))])), (h15, .inr (0, [.ref h24, .int (iI (ili)), .int (iI (bI iki))])), (h24, .inr (4, [.int (iI (nki)), .int (iI (ndi)), .int (iI (nbi)), .int (iI (nspi)), .int (iI (nsti)), .int (iI (nmoi)), .int (iI (ntui)), .int (iI (nrii)), .int (iI (nlai)), .int (iI (nroi))]))] := hD
        refine lv_aload_n hx hb dX10_back_38 rfl (lv_at hl 1 rfl) ?_
        refine lv_aload_n hx hb dX10_back_39 rfl (lv_at hl 0 rfl) ?_
        refine va_get (D := D) (ci := 0) (v := .int (iI (ili))) (C := RX0) (T := TX0) (N := 3) hx hb hts UX0 hown hK hP 2 rfl rfl 1 (by decide) L382 (fun _ h9 => h9) rfl dX10_back_40 ?_
        refine va_put (D := D) (ci := 10) (v := .int (iI (ili))) (ty := .int) (C := RX10) (T := TX10) (N := 18) hx hb hts UX10 tyX10 tyX10_ok nmX10 hown hK hP hD hS 0 rfl rfl 16 (by decide) L103 (fun _ h9 => h9) rfl rfl rfl rfl (Nat.le_of_ble_eq_true rfl) dX10_back_43 (fun H locs hP hD hS => ?_)
        have hP : va_P D vwCl [(h0, .inr (10, [.ref h20, .ref h21, .ref h10, .ref h12, .ref h14, .ref h15, .ref h16, .ref h8, .ref h1, .ref h6, .ref h2, .ref h3, .ref h17, .ref h18, .int (iI (tk9)), .ref h19, .int (iI (ili)), .long (lI (tra))])), (h14, .inr (4, [.int (iI (nki)), .int (iI (ndi)), .int (iI (nbi)), .int (iI (nspi)), .int (iI (nsti)), .int (iI (nmoi)), .int (iI (ntui)), .int (iI (nrii)), .int (iI (nlai)), .int (iI (nroi))])), (h15, .inr (0, [.ref h24, .int (iI (ili)), .int (iI (bI iki))])), (h24, .inr (4, [.int (iI (nki)), .int (iI (ndi)), .int (iI (nbi)), .int (iI (nspi)), .int (iI (nsti)), .int (iI (nmoi)), .int (iI (ntui)), .int (iI (nrii)), .int (iI (nlai)), .int (iI (nroi))]))] H := hP
        have hD : va_D A [(h0, .inr (10, [.ref h20, .ref h21, .ref h10, .ref h12, .ref h14, .ref h15, .ref h16, .ref h8, .ref h1, .ref h6, .ref h2, .ref h3, .ref h17, .ref h18, .int (iI (tk9)), .ref h19, .int (iI (ili)), .long (lI (tra))])), (h14, .inr (4, [.int (iI (nki)), .int (iI (ndi)), .int (iI (nbi)), .int (iI (nspi)), .int (iI (nsti)), .int (iI (nmoi)), .int (iI (ntui)), .int (iI (nrii)), .int (iI (nlai)), .int (iI (nroi))])), (h15, .inr (0, [.ref h24, .int (iI (ili)), .int (iI (bI iki))])), (h24, .inr (4, [.int (iI (nki)), .int (iI (ndi)), .int (iI (nbi)), .int (iI (nspi)), .int (iI (nsti)), .int (iI (nmoi)), .int (iI (ntui)), .int (iI (nrii)), .int (iI (nlai)), .int (iI (nroi))]))] := hD
        refine lv_aload_n hx hb dX10_back_46 rfl (lv_at hl 1 rfl) ?_
        refine va_get (D := D) (ci := 10) (v := .ref h14) (C := RX10) (T := TX10) (N := 18) hx hb hts UX10 hown hK hP 0 rfl rfl 4 (by decide) L38 (fun _ h9 => h9) rfl dX10_back_47 ?_
        refine va_get (D := D) (ci := 4) (v := .int (iI (nsti))) (C := RX4) (T := TX4) (N := 10) hx hb hts UX4 hown hK hP 1 rfl rfl 4 (by decide) L192 (fun _ h9 => h9) rfl dX10_back_50 ?_
        rw [hQ]; exact jm_iret (nki, ndi, nbi, nspi, nsti, nmoi, ntui, nrii, nlai, nroi, ili, nsti) hx hb hr hlocks hS hP rfl (by (try dsimp only); first | (rw [if_pos (by first | exact c_21 | simp_all)]; done) | (rw [if_neg (by first | exact c_21 | simp_all)]; done)) dX10_back_53
      · refine lv_bipush (v := iI (-2)) hx hb dX10_back_24 (by decide) ?_
        rw [hQ]; exact jm_iret (nk, nd, nb, nsp, nst, nmo, ntu, nri, nla, nro, lt, -2) hx hb hr hlocks hS hP rfl (by (try dsimp only); first | (rw [if_pos (by first | exact c_21 | simp_all)]; done) | (rw [if_neg (by first | exact c_21 | simp_all)]; done)) dX10_back_26
    · exact False.elim (by omega)
abbrev rmX10_backB : Room := { frames := 2, cells := 0, slots := 0, locals := 43 }
set_option maxHeartbeats 4000000 in
set_option maxRecDepth 100000 in
theorem c_X10_backB (l : Launch) (D : va_G) (cI cZ : ClassId) (z : jZT) (h0 h20 h21 h10 h12 h14 h15 h16 h8 h1 h6 h2 h3 h17 h18 h19 h25 : Nat) (tk9 lt tra nk nd nb nsp nst nmo ntu nri nla nro ili nki ndi nbi nspi nsti nmoi ntui nrii nlai nroi : Int) (iki : Bool) : jMu (S := Int × Int × Int × Int × Int × Int × Int × Int × Int × Int × Int × Int) l yX10_back wsX10_back rmX10_backB [.ref h0, .int (iI (1))] D cI cZ z [(h0, .inr (10, [.ref h20, .ref h21, .ref h10, .ref h12, .ref h14, .ref h15, .ref h16, .ref h8, .ref h1, .ref h6, .ref h2, .ref h3, .ref h17, .ref h18, .int (iI (tk9)), .ref h19, .int (iI (lt)), .long (lI (tra))])), (h14, .inr (4, [.int (iI (nk)), .int (iI (nd)), .int (iI (nb)), .int (iI (nsp)), .int (iI (nst)), .int (iI (nmo)), .int (iI (ntu)), .int (iI (nri)), .int (iI (nla)), .int (iI (nro))])), (h16, .inr (0, [.ref h25, .int (iI (ili)), .int (iI (bI iki))])), (h25, .inr (4, [.int (iI (nki)), .int (iI (ndi)), .int (iI (nbi)), .int (iI (nspi)), .int (iI (nsti)), .int (iI (nmoi)), .int (iI (ntui)), .int (iI (nrii)), .int (iI (nlai)), .int (iI (nroi))]))] (fun u => some (.int (iI (u.2.2.2.2.2.2.2.2.2.2.2)))) (fun u => ((u.1, u.2.1, u.2.2.1, u.2.2.2.1, u.2.2.2.2.1, u.2.2.2.2.2.1, u.2.2.2.2.2.2.1, u.2.2.2.2.2.2.2.1, u.2.2.2.2.2.2.2.2.1, u.2.2.2.2.2.2.2.2.2.1), u.2.2.2.2.2.2.2.2.2.2.1, u.2.2.2.2.2.2.2.2.2.2.2) = if iki = true then ((nki, ndi, nbi, nspi, nsti, nmoi, ntui, nrii, nlai, nroi), ili, nsti) else ((nk, nd, nb, nsp, nst, nmo, ntu, nri, nla, nro), lt, -2)) (fun u => [(h0, .inr (10, [.ref h20, .ref h21, .ref h10, .ref h12, .ref h14, .ref h15, .ref h16, .ref h8, .ref h1, .ref h6, .ref h2, .ref h3, .ref h17, .ref h18, .int (iI (tk9)), .ref h19, .int (iI (u.2.2.2.2.2.2.2.2.2.2.1)), .long (lI (tra))])), (h14, .inr (4, [.int (iI (u.1)), .int (iI (u.2.1)), .int (iI (u.2.2.1)), .int (iI (u.2.2.2.1)), .int (iI (u.2.2.2.2.1)), .int (iI (u.2.2.2.2.2.1)), .int (iI (u.2.2.2.2.2.2.1)), .int (iI (u.2.2.2.2.2.2.2.1)), .int (iI (u.2.2.2.2.2.2.2.2.1)), .int (iI (u.2.2.2.2.2.2.2.2.2.1))])), (h16, .inr (0, [.ref h25, .int (iI (ili)), .int (iI (bI iki))])), (h25, .inr (4, [.int (iI (nki)), .int (iI (ndi)), .int (iI (nbi)), .int (iI (nspi)), .int (iI (nsti)), .int (iI (nmoi)), .int (iI (ntui)), .int (iI (nrii)), .int (iI (nlai)), .int (iI (nroi))]))]) := by
  refine jMu_of (cc := cX10_back) (n := 3) (ret := (some .int)) (by decide) rfl (Nat.le_of_ble_eq_true rfl) ?_
  intro p e s m below meth c A ls args Q hQ F hA hZ hP hK hD hS hl
  obtain ⟨hx, hb, hr, hml, hown, hts, hlocks⟩ := F
  have hown : s.vm.findClass RX10 = some m.cls := hown
  have hl : lv_has ls 3 [(0, .ref h0), (1, .int (iI (1)))] := hl
  have L124 := hts (.fieldLink RX10 124 "TinMouse$Image" "kept" "Z") (by decide +kernel)
  have L38 := hts (.fieldLink RX10 38 "TinMouse" "now" "LTinMouse$Now;") (by decide +kernel)
  have L377 := hts (.fieldLink RX10 377 "TinMouse$Image" "now" "LTinMouse$Now;") (by decide +kernel)
  have L382 := hts (.fieldLink RX10 382 "TinMouse$Image" "lot" "I") (by decide +kernel)
  have L103 := hts (.fieldLink RX10 103 "TinMouse" "lot" "I") (by decide +kernel)
  have L192 := hts (.fieldLink RX10 192 "TinMouse$Now" "steps" "I") (by decide +kernel)
  have UX0 : ∀ w ∈ wsX00, w ∈ wsX10_back := fun w h => List.mem_cons_of_mem _ (List.mem_append_left _ (List.mem_append_left _ (List.mem_append_right _ h)))
  have UX10 : ∀ w ∈ wsX100, w ∈ wsX10_back := fun w h => List.mem_cons_of_mem _ (List.mem_append_left _ (List.mem_append_right _ h))
  have UX4 : ∀ w ∈ wsX40, w ∈ wsX10_back := fun w h => List.mem_cons_of_mem _ (List.mem_append_right _ h)
  refine lv_iload_n hx hb dX10_back_0 rfl (lv_at hl 1 rfl) ?_
  refine j_if_lt (tgt := 9) hx hb (by omega) dX10_back_1 (by decide) (fun c_1 => ?_) (fun c_1 => ?_)
  · exact False.elim (by omega)
  · refine lv_iload_n hx hb dX10_back_4 rfl (lv_at hl 1 rfl) ?_
    refine lv_iconst (v := iI (1)) hx hb dX10_back_5 rfl ?_
    refine j_icmp_le (tgt := 11) hx hb (by omega) dX10_back_6 (by decide) (fun c_6 => ?_) (fun c_6 => ?_)
    · refine lv_aload_n hx hb dX10_back_11 rfl (lv_at hl 0 rfl) ?_
      refine lv_iload_n hx hb dX10_back_12 rfl (lv_at hl 1 rfl) ?_
      refine j_rd (va_runV (As := [.int (iI (1))]) (rest := []) ⟨hx, hb, hml, hown, hts⟩ (c_X10_imageOfB l D cI cZ z h0 h20 h21 h10 h12 h14 h15 h16 h8 h1 h6 h2 h3 h17 h18 h19 tk9 lt tra  s.heap.size) (cwV 1 hts gX10_back_X10_imageOf rfl rfl rfl hvX10_imageOf ⟨Nat.le_of_ble_eq_true rfl, Nat.le_of_ble_eq_true rfl⟩) (j_preV hP hD hK hS hZ hA [0] rfl rfl 0 rfl rfl) rfl rfl hl.1 rfl (lv_room (Nat.le_of_ble_eq_true rfl)) dX10_back_13 ⟨Nat.zero_le _, Nat.zero_le _⟩) ?_
      refine lv_astore_n (lv' := [(2, .ref h16), (0, .ref h0), (1, .int (iI (1)))]) hx hb dX10_back_16 rfl hl (by decide) rfl (fun ls hl => ?_)
      refine lv_aload_n hx hb dX10_back_17 rfl (lv_at hl 0 rfl) ?_
      refine va_get (D := D) (ci := 0) (v := .int (iI (bI iki))) (C := RX0) (T := TX0) (N := 3) hx hb hts UX0 hown hK hP 2 rfl rfl 2 (by decide) L124 (fun _ h9 => h9) rfl dX10_back_18 ?_
      refine j_ifne_b (tgt := 27) hx hb dX10_back_21 (by decide) (fun c_21 => ?_) (fun c_21 => ?_)
      · refine lv_aload_n hx hb dX10_back_27 rfl (lv_at hl 1 rfl) ?_
        refine va_get (D := D) (ci := 10) (v := .ref h14) (C := RX10) (T := TX10) (N := 18) hx hb hts UX10 hown hK hP 0 rfl rfl 4 (by decide) L38 (fun _ h9 => h9) rfl dX10_back_28 ?_
        refine lv_aload_n hx hb dX10_back_31 rfl (lv_at hl 0 rfl) ?_
        refine va_get (D := D) (ci := 0) (v := .ref h25) (C := RX0) (T := TX0) (N := 3) hx hb hts UX0 hown hK hP 2 rfl rfl 0 (by decide) L377 (fun _ h9 => h9) rfl dX10_back_32 ?_
        refine j_muv (va_runV (As := [.ref h25]) (rest := []) ⟨hx, hb, hml, hown, hts⟩ (c_X4_copy l D cI cZ z h14 h25 nk nd nb nsp nst nmo ntu nri nla nro nki ndi nbi nspi nsti nmoi ntui nrii nlai nroi  s.heap.size) (cwV 1 hts gX10_back_X4_copy rfl rfl rfl hvX4_copy ⟨Nat.le_of_ble_eq_true rfl, Nat.le_of_ble_eq_true rfl⟩) (j_preV hP hD hK hS hZ hA [1, 3] rfl rfl 1 rfl rfl) rfl rfl hl.1 rfl (lv_room (Nat.le_of_ble_eq_true rfl)) dX10_back_35 ⟨Nat.zero_le _, Nat.zero_le _⟩) hP hD hS hA [1, 3] rfl (fun _ => rfl) (fun _ H locs hw_35 hP hD hS => ?_)
        have hP : va_P D vwCl [(h0, .inr (10, [.ref h20, .ref h21, .ref h10, .ref h12, .ref h14, .ref h15, .ref h16, .ref h8, .ref h1, .ref h6, .ref h2, .ref h3, .ref h17, .ref h18, .int (iI (tk9)), .ref h19, .int (iI (lt)), .long (lI (tra))])), (h14, .inr (4, [.int (iI (nki)), .int (iI (ndi)), .int (iI (nbi)), .int (iI (nspi)), .int (iI (nsti)), .int (iI (nmoi)), .int (iI (ntui)), .int (iI (nrii)), .int (iI (nlai)), .int (iI (nroi))])), (h16, .inr (0, [.ref h25, .int (iI (ili)), .int (iI (bI iki))])), (h25, .inr (4, [.int (iI (nki)), .int (iI (ndi)), .int (iI (nbi)), .int (iI (nspi)), .int (iI (nsti)), .int (iI (nmoi)), .int (iI (ntui)), .int (iI (nrii)), .int (iI (nlai)), .int (iI (nroi))]))] H := hP
        have hD : va_D A [(h0, .inr (10, [.ref h20, .ref h21, .ref h10, .ref h12, .ref h14, .ref h15, .ref h16, .ref h8, .ref h1, .ref h6, .ref h2, .ref h3, .ref h17, .ref h18, .int (iI (tk9)), .ref h19, .int (iI (lt)), .long (lI (tra))])), (h14, .inr (4, [.int (iI (nki)), .int (iI (ndi)), .int (iI (nbi)), .int (iI (nspi)), .int (iI (nsti)), .int (iI (nmoi)), .int (iI (ntui)), .int (iI (nrii)), .int (iI (nlai)), .int (iI (nroi))])), (h16, .inr (0, [.ref h25, .int (iI (ili)), .int (iI (bI iki))])), (h25, .inr (4, [.int (iI (nki)), .int (iI (ndi)), .int (iI (nbi)), .int (iI (nspi)), .int (iI (nsti)), .int (iI (nmoi)), .int (iI (ntui)), .int (iI (nrii)), .int (iI (nlai)), .int (iI (nroi))]))] := hD
        refine lv_aload_n hx hb dX10_back_38 rfl (lv_at hl 1 rfl) ?_
        refine lv_aload_n hx hb dX10_back_39 rfl (lv_at hl 0 rfl) ?_
        refine va_get (D := D) (ci := 0) (v := .int (iI (ili))) (C := RX0) (T := TX0) (N := 3) hx hb hts UX0 hown hK hP 2 rfl rfl 1 (by decide) L382 (fun _ h9 => h9) rfl dX10_back_40 ?_
        refine va_put (D := D) (ci := 10) (v := .int (iI (ili))) (ty := .int) (C := RX10) (T := TX10) (N := 18) hx hb hts UX10 tyX10 tyX10_ok nmX10 hown hK hP hD hS 0 rfl rfl 16 (by decide) L103 (fun _ h9 => h9) rfl rfl rfl rfl (Nat.le_of_ble_eq_true rfl) dX10_back_43 (fun H locs hP hD hS => ?_)
        have hP : va_P D vwCl [(h0, .inr (10, [.ref h20, .ref h21, .ref h10, .ref h12, .ref h14, .ref h15, .ref h16, .ref h8, .ref h1, .ref h6, .ref h2, .ref h3, .ref h17, .ref h18, .int (iI (tk9)), .ref h19, .int (iI (ili)), .long (lI (tra))])), (h14, .inr (4, [.int (iI (nki)), .int (iI (ndi)), .int (iI (nbi)), .int (iI (nspi)), .int (iI (nsti)), .int (iI (nmoi)), .int (iI (ntui)), .int (iI (nrii)), .int (iI (nlai)), .int (iI (nroi))])), (h16, .inr (0, [.ref h25, .int (iI (ili)), .int (iI (bI iki))])), (h25, .inr (4, [.int (iI (nki)), .int (iI (ndi)), .int (iI (nbi)), .int (iI (nspi)), .int (iI (nsti)), .int (iI (nmoi)), .int (iI (ntui)), .int (iI (nrii)), .int (iI (nlai)), .int (iI (nroi))]))] H := hP
        have hD : va_D A [(h0, .inr (10, [.ref h20, .ref h21, .ref h10, .ref h12, .ref h14, .ref h15, .ref h16, .ref h8, .ref h1, .ref h6, .ref h2, .ref h3, .ref h17, .ref h18, .int (iI (tk9)), .ref h19, .int (iI (ili)), .long (lI (tra))])), (h14, .inr (4, [.int (iI (nki)), .int (iI (ndi)), .int (iI (nbi)), .int (iI (nspi)), .int (iI (nsti)), .int (iI (nmoi)), .int (iI (ntui)), .int (iI (nrii)), .int (iI (nlai)), .int (iI (nroi))])), (h16, .inr (0, [.ref h25, .int (iI (ili)), .int (iI (bI iki))])), (h25, .inr (4, [.int (iI (nki)), .int (iI (ndi)), .int (iI (nbi)), .int (iI (nspi)), .int (iI (nsti)), .int (iI (nmoi)), .int (iI (ntui)), .int (iI (nrii)), .int (iI (nlai)), .int (iI (nroi))]))] := hD
        refine lv_aload_n hx hb dX10_back_46 rfl (lv_at hl 1 rfl) ?_
        refine va_get (D := D) (ci := 10) (v := .ref h14) (C := RX10) (T := TX10) (N := 18) hx hb hts UX10 hown hK hP 0 rfl rfl 4 (by decide) L38 (fun _ h9 => h9) rfl dX10_back_47 ?_
        refine va_get (D := D) (ci := 4) (v := .int (iI (nsti))) (C := RX4) (T := TX4) (N := 10) hx hb hts UX4 hown hK hP 1 rfl rfl 4 (by decide) L192 (fun _ h9 => h9) rfl dX10_back_50 ?_
        rw [hQ]; exact jm_iret (nki, ndi, nbi, nspi, nsti, nmoi, ntui, nrii, nlai, nroi, ili, nsti) hx hb hr hlocks hS hP rfl (by (try dsimp only); first | (rw [if_pos (by first | exact c_21 | simp_all)]; done) | (rw [if_neg (by first | exact c_21 | simp_all)]; done)) dX10_back_53
      · refine lv_bipush (v := iI (-2)) hx hb dX10_back_24 (by decide) ?_
        rw [hQ]; exact jm_iret (nk, nd, nb, nsp, nst, nmo, ntu, nri, nla, nro, lt, -2) hx hb hr hlocks hS hP rfl (by (try dsimp only); first | (rw [if_pos (by first | exact c_21 | simp_all)]; done) | (rw [if_neg (by first | exact c_21 | simp_all)]; done)) dX10_back_26
    · exact False.elim (by omega)
abbrev rmX10_keepN : Room := { frames := 0, cells := 0, slots := 0, locals := 0 }
set_option maxHeartbeats 4000000 in
set_option maxRecDepth 100000 in
theorem c_X10_keepN (l : Launch) (D : va_G) (cI cZ : ClassId) (z : jZT) (h0 h20 h21 h10 h12 h14 h15 h16 h8 h1 h6 h2 h3 h17 h18 h19 : Nat) (w tk9 lt tra : Int) (hw : (w < 0 ∨ 1 < w) ∧ -2147483648 ≤ w ∧ w < 2147483648) : jRd l yX10_keep wsX10_keep rmX10_keepN [.ref h0, .int (iI (w))] D cI cZ z [(h0, .inr (10, [.ref h20, .ref h21, .ref h10, .ref h12, .ref h14, .ref h15, .ref h16, .ref h8, .ref h1, .ref h6, .ref h2, .ref h3, .ref h17, .ref h18, .int (iI (tk9)), .ref h19, .int (iI (lt)), .long (lI (tra))]))] (some (.int (iI (-1)))) := by
  refine jRd_of (cc := cX10_keep) (n := 3) (ret := (some .int)) (by decide) rfl (Nat.le_of_ble_eq_true rfl) ?_
  intro p e s m below meth c A ls args Q hQ F hA hZ hP hK hD hS hl
  obtain ⟨hx, hb, hr, hml, hown, hts, hlocks⟩ := F
  have hown : s.vm.findClass RX10 = some m.cls := hown
  have hl : lv_has ls 3 [(0, .ref h0), (1, .int (iI (w)))] := hl
  refine lv_iload_n hx hb dX10_keep_0 rfl (lv_at hl 1 rfl) ?_
  refine j_if_lt (tgt := 9) hx hb (by omega) dX10_keep_1 (by decide) (fun c_1 => ?_) (fun c_1 => ?_)
  · refine lv_iconst (v := iI (-1)) hx hb dX10_keep_9 rfl ?_
    rw [hQ]; exact jr_iret hx hb hr hlocks rfl dX10_keep_10
  · refine lv_iload_n hx hb dX10_keep_4 rfl (lv_at hl 1 rfl) ?_
    refine lv_iconst (v := iI (1)) hx hb dX10_keep_5 rfl ?_
    refine j_icmp_le (tgt := 11) hx hb (by omega) dX10_keep_6 (by decide) (fun c_6 => ?_) (fun c_6 => ?_)
    · exact False.elim (by omega)
    · refine lv_iconst (v := iI (-1)) hx hb dX10_keep_9 rfl ?_
      rw [hQ]; exact jr_iret hx hb hr hlocks rfl dX10_keep_10
abbrev rmX10_backN : Room := { frames := 0, cells := 0, slots := 0, locals := 0 }
set_option maxHeartbeats 4000000 in
set_option maxRecDepth 100000 in
theorem c_X10_backN (l : Launch) (D : va_G) (cI cZ : ClassId) (z : jZT) (h0 h20 h21 h10 h12 h14 h15 h16 h8 h1 h6 h2 h3 h17 h18 h19 : Nat) (w tk9 lt tra : Int) (hw : (w < 0 ∨ 1 < w) ∧ -2147483648 ≤ w ∧ w < 2147483648) : jRd l yX10_back wsX10_back rmX10_backN [.ref h0, .int (iI (w))] D cI cZ z [(h0, .inr (10, [.ref h20, .ref h21, .ref h10, .ref h12, .ref h14, .ref h15, .ref h16, .ref h8, .ref h1, .ref h6, .ref h2, .ref h3, .ref h17, .ref h18, .int (iI (tk9)), .ref h19, .int (iI (lt)), .long (lI (tra))]))] (some (.int (iI (-1)))) := by
  refine jRd_of (cc := cX10_back) (n := 3) (ret := (some .int)) (by decide) rfl (Nat.le_of_ble_eq_true rfl) ?_
  intro p e s m below meth c A ls args Q hQ F hA hZ hP hK hD hS hl
  obtain ⟨hx, hb, hr, hml, hown, hts, hlocks⟩ := F
  have hown : s.vm.findClass RX10 = some m.cls := hown
  have hl : lv_has ls 3 [(0, .ref h0), (1, .int (iI (w)))] := hl
  refine lv_iload_n hx hb dX10_back_0 rfl (lv_at hl 1 rfl) ?_
  refine j_if_lt (tgt := 9) hx hb (by omega) dX10_back_1 (by decide) (fun c_1 => ?_) (fun c_1 => ?_)
  · refine lv_iconst (v := iI (-1)) hx hb dX10_back_9 rfl ?_
    rw [hQ]; exact jr_iret hx hb hr hlocks rfl dX10_back_10
  · refine lv_iload_n hx hb dX10_back_4 rfl (lv_at hl 1 rfl) ?_
    refine lv_iconst (v := iI (1)) hx hb dX10_back_5 rfl ?_
    refine j_icmp_le (tgt := 11) hx hb (by omega) dX10_back_6 (by decide) (fun c_6 => ?_) (fun c_6 => ?_)
    · exact False.elim (by omega)
    · refine lv_iconst (v := iI (-1)) hx hb dX10_back_9 rfl ?_
      rw [hQ]; exact jr_iret hx hb hr hlocks rfl dX10_back_10
