abbrev rmX9_forget : Room := { frames := 0, cells := 0, slots := 0, locals := 0 }
set_option maxHeartbeats 4000000 in
set_option maxRecDepth 100000 in
theorem c_X9_forget (l : Launch) (D : va_G) (cI cZ : ClassId) (z : jZT) (h0 h1 : Nat) (ln wt wb : Int) : jMu (S := Unit) l yX9_forget wsX9_forget rmX9_forget [.ref h0] D cI cZ z [(h0, .inr (9, [.ref h1, .int (iI (ln)), .int (iI (wt)), .int (iI (wb))]))] (fun u => none) (fun u => True) (fun u => [(h0, .inr (9, [.ref h1, .int (iI (0)), .int (iI (wt)), .int (iI (wb))]))]) := by
  refine jMu_of (cc := cX9_forget) (n := 1) (ret := none) (by decide) rfl (Nat.le_of_ble_eq_true rfl) ?_
  intro p e s m below meth c A ls args Q hQ F hA hZ hP hK hD hS hl
  obtain ⟨hx, hb, hr, hml, hown, hts, hlocks⟩ := F
  have hown : s.vm.findClass RX9 = some m.cls := hown
  have hl : lv_has ls 1 [(0, .ref h0)] := hl
  have L15 := hts (.fieldLink RX9 15 "TinMouse$Ways" "laidNose" "I") (by decide +kernel)
  have UX9 : ∀ w ∈ wsX90, w ∈ wsX9_forget := fun w h => List.mem_cons_of_mem _ (List.mem_append_right _ h)
  refine lv_aload_n hx hb dX9_forget_0 rfl (lv_at hl 0 rfl) ?_
  refine lv_iconst (v := iI (0)) hx hb dX9_forget_1 rfl ?_
  refine va_put (D := D) (ci := 9) (v := .int (iI (0))) (ty := .int) (C := RX9) (T := TX9) (N := 4) hx hb hts UX9 tyX9 tyX9_ok nmX9 hown hK hP hD hS 0 rfl rfl 1 (by decide) L15 (fun _ h9 => h9) rfl rfl rfl rfl (Nat.le_of_ble_eq_true rfl) dX9_forget_2 (fun H locs hP hD hS => ?_)
  have hP : va_P D vwCl [(h0, .inr (9, [.ref h1, .int (iI (0)), .int (iI (wt)), .int (iI (wb))]))] H := hP
  have hD : va_D A [(h0, .inr (9, [.ref h1, .int (iI (0)), .int (iI (wt)), .int (iI (wb))]))] := hD
  rw [hQ]; exact jm_vret () hx hb hr hlocks hS hP rfl trivial dX9_forget_5
abbrev rmX9_bind : Room := { frames := 0, cells := 0, slots := 0, locals := 0 }
set_option maxHeartbeats 4000000 in
set_option maxRecDepth 100000 in
theorem c_X9_bind (l : Launch) (D : va_G) (cI cZ : ClassId) (z : jZT) (h0 h1 : Nat) (t2 b2 ln wt wb : Int) : jMu (S := Unit) l yX9_bind wsX9_bind rmX9_bind [.ref h0, .int (iI (t2)), .int (iI (b2))] D cI cZ z [(h0, .inr (9, [.ref h1, .int (iI (ln)), .int (iI (wt)), .int (iI (wb))]))] (fun u => none) (fun u => True) (fun u => [(h0, .inr (9, [.ref h1, .int (iI (ln)), .int (iI (t2)), .int (iI (b2))]))]) := by
  refine jMu_of (cc := cX9_bind) (n := 3) (ret := none) (by decide) rfl (Nat.le_of_ble_eq_true rfl) ?_
  intro p e s m below meth c A ls args Q hQ F hA hZ hP hK hD hS hl
  obtain ⟨hx, hb, hr, hml, hown, hts, hlocks⟩ := F
  have hown : s.vm.findClass RX9 = some m.cls := hown
  have hl : lv_has ls 3 [(0, .ref h0), (1, .int (iI (t2))), (2, .int (iI (b2)))] := hl
  have L45 := hts (.fieldLink RX9 45 "TinMouse$Ways" "turn" "I") (by decide +kernel)
  have L48 := hts (.fieldLink RX9 48 "TinMouse$Ways" "bend" "I") (by decide +kernel)
  have UX9 : ∀ w ∈ wsX90, w ∈ wsX9_bind := fun w h => List.mem_cons_of_mem _ (List.mem_append_right _ h)
  refine lv_aload_n hx hb dX9_bind_0 rfl (lv_at hl 0 rfl) ?_
  refine lv_iload_n hx hb dX9_bind_1 rfl (lv_at hl 1 rfl) ?_
  refine va_put (D := D) (ci := 9) (v := .int (iI (t2))) (ty := .int) (C := RX9) (T := TX9) (N := 4) hx hb hts UX9 tyX9 tyX9_ok nmX9 hown hK hP hD hS 0 rfl rfl 2 (by decide) L45 (fun _ h9 => h9) rfl rfl rfl rfl (Nat.le_of_ble_eq_true rfl) dX9_bind_2 (fun H locs hP hD hS => ?_)
  have hP : va_P D vwCl [(h0, .inr (9, [.ref h1, .int (iI (ln)), .int (iI (t2)), .int (iI (wb))]))] H := hP
  have hD : va_D A [(h0, .inr (9, [.ref h1, .int (iI (ln)), .int (iI (t2)), .int (iI (wb))]))] := hD
  refine lv_aload_n hx hb dX9_bind_5 rfl (lv_at hl 0 rfl) ?_
  refine lv_iload_n hx hb dX9_bind_6 rfl (lv_at hl 2 rfl) ?_
  refine va_put (D := D) (ci := 9) (v := .int (iI (b2))) (ty := .int) (C := RX9) (T := TX9) (N := 4) hx hb hts UX9 tyX9 tyX9_ok nmX9 hown hK hP hD hS 0 rfl rfl 3 (by decide) L48 (fun _ h9 => h9) rfl rfl rfl rfl (Nat.le_of_ble_eq_true rfl) dX9_bind_7 (fun H locs hP hD hS => ?_)
  have hP : va_P D vwCl [(h0, .inr (9, [.ref h1, .int (iI (ln)), .int (iI (t2)), .int (iI (b2))]))] H := hP
  have hD : va_D A [(h0, .inr (9, [.ref h1, .int (iI (ln)), .int (iI (t2)), .int (iI (b2))]))] := hD
  rw [hQ]; exact jm_vret () hx hb hr hlocks hS hP rfl trivial dX9_bind_10
theorem hsX10_standOf : yX10_standOf.cls ≠ "java/lang/invoke/MethodHandle" ∧ yX10_standOf.cls ≠ "java/lang/invoke/VarHandle" ∧ (parseMethodDescriptor yX10_standOf.desc).map (fun d => d.parameters.length) = some 3 := by decide +kernel
theorem hvX10_standOf : yX10_standOf.cls = RX10 ∧ yX10_standOf.cls ≠ "java/lang/invoke/MethodHandle" ∧ yX10_standOf.cls ≠ "java/lang/invoke/VarHandle" ∧ (parseMethodDescriptor yX10_standOf.desc).map (fun d => d.parameters.length) = some 3 := ⟨rfl, hsX10_standOf⟩
theorem hsX10_cellOf : yX10_cellOf.cls ≠ "java/lang/invoke/MethodHandle" ∧ yX10_cellOf.cls ≠ "java/lang/invoke/VarHandle" ∧ (parseMethodDescriptor yX10_cellOf.desc).map (fun d => d.parameters.length) = some 1 := by decide +kernel
theorem hvX10_cellOf : yX10_cellOf.cls = RX10 ∧ yX10_cellOf.cls ≠ "java/lang/invoke/MethodHandle" ∧ yX10_cellOf.cls ≠ "java/lang/invoke/VarHandle" ∧ (parseMethodDescriptor yX10_cellOf.desc).map (fun d => d.parameters.length) = some 1 := ⟨rfl, hsX10_cellOf⟩
abbrev rmX9_after : Room := { frames := 1, cells := 0, slots := 0, locals := 22 }
set_option maxHeartbeats 4000000 in
set_option maxRecDepth 100000 in
theorem c_X9_after (l : Launch) (D : va_G) (cI cZ : ClassId) (z : jZT) (h0 h1 : Nat) (q ln wt wb : Int) (a : Int → Int) (f : Int → Int) (N : Int) (hf : NxtI a wt wb f N) (hq : 0 ≤ q ∧ q < N) : jRd l yX9_after wsX9_after rmX9_after [.ref h0, .int (iI (q))] D cI cZ z [(h0, .inr (9, [.ref h1, .int (iI (ln)), .int (iI (wt)), .int (iI (wb))])), (h1, .inl (cI, 2048, .inl (aI a)))] (some (.int (iI (f q)))) := by
  refine jRd_of (cc := cX9_after) (n := 5) (ret := (some .int)) (by decide) rfl (Nat.le_of_ble_eq_true rfl) ?_
  intro p e s m below meth c A ls args Q hQ F hA hZ hP hK hD hS hl
  obtain ⟨hx, hb, hr, hml, hown, hts, hlocks⟩ := F
  have hown : s.vm.findClass RX9 = some m.cls := hown
  have hl : lv_has ls 5 [(0, .ref h0), (1, .int (iI (q)))] := hl
  have L9 := hts (.fieldLink RX9 9 "TinMouse$Ways" "ahead" "[I") (by decide +kernel)
  have IRX10 := hts (.initialized RX10) (by decide +kernel)
  have STyX10_at := hts (.static yX10_at) (by decide +kernel)
  have L48 := hts (.fieldLink RX9 48 "TinMouse$Ways" "bend" "I") (by decide +kernel)
  have STyX10_standOf := hts (.static yX10_standOf) (by decide +kernel)
  have STyX10_cellOf := hts (.static yX10_cellOf) (by decide +kernel)
  have L45 := hts (.fieldLink RX9 45 "TinMouse$Ways" "turn" "I") (by decide +kernel)
  have UX9 : ∀ w ∈ wsX90, w ∈ wsX9_after := fun w h => List.mem_cons_of_mem _ (List.mem_append_right _ h)
  have hN := hf.2.1
  have hwt := hf.1.2
  have hat : atI ((2048 : Nat) : Int) a (q / 9) = a (q / 9) := atI_in (by omega)
  have hra := hf.1.1 (q / 9) (by omega) (by omega)
  refine lv_iload_n hx hb dX9_after_0 rfl (lv_at hl 1 rfl) ?_
  refine j_if_ge (tgt := 6) hx hb (by omega) dX9_after_1 (by decide) (fun c_1 => ?_) (fun c_1 => ?_)
  · refine lv_iload_n hx hb dX9_after_6 rfl (lv_at hl 1 rfl) ?_
    refine lv_bipush (v := iI (9)) hx hb dX9_after_7 (by decide) ?_
    refine j_idiv hx hb (by omega) dX9_after_9 ?_
    refine lv_bipush (v := iI (8)) hx hb dX9_after_10 (by decide) ?_
    refine j_irem hx hb (by omega) dX9_after_12 ?_
    refine lv_istore_n (lv' := [(2, .int (iI ((q / 9) % 8))), (0, .ref h0), (1, .int (iI (q)))]) hx hb dX9_after_13 rfl hl (by decide) rfl (fun ls hl => ?_)
    refine lv_iload_n hx hb dX9_after_14 rfl (lv_at hl 2 rfl) ?_
    refine lv_bipush (v := iI (9)) hx hb dX9_after_15 (by decide) ?_
    refine j_irem hx hb (by omega) dX9_after_17 ?_
    refine lv_istore_n (lv' := [(3, .int (iI (q % 9))), (2, .int (iI ((q / 9) % 8))), (0, .ref h0), (1, .int (iI (q)))]) hx hb dX9_after_18 rfl hl (by decide) rfl (fun ls hl => ?_)
    refine lv_aload_n hx hb dX9_after_19 rfl (lv_at hl 2 rfl) ?_
    refine va_get (D := D) (ci := 9) (v := .ref h1) (C := RX9) (T := TX9) (N := 4) hx hb hts UX9 hown hK hP 0 rfl rfl 0 (by decide) L9 (fun _ h9 => h9) rfl dX9_after_20 ?_
    refine lv_iload_n hx hb dX9_after_23 rfl (lv_at hl 3 rfl) ?_
    refine lv_bipush (v := iI (9)) hx hb dX9_after_24 (by decide) ?_
    refine j_idiv hx hb (by omega) dX9_after_26 ?_
    refine j_rd (va_runSN (As := [.ref h1, .int (iI (q / 9))]) (rest := []) ⟨hx, hb, hml, hown, hts⟩ (c_X10_at l D cI cZ z h1 (q / 9) a 2048 (by first | assumption | omega) (by first | assumption | omega) s.heap.size) ⟨va_cnB 2 hts gX9_after_X10_at_n51 rfl rfl rfl (hZ.2.2.2.2.2 _ (List.mem_of_getElem? (i := 15) rfl)) IRX10 hsX10_at ⟨Nat.le_of_ble_eq_true rfl, Nat.le_of_ble_eq_true rfl⟩, STyX10_at, trivial⟩ (j_preS hP hD hK hS hZ hA [1] rfl rfl) rfl rfl hl.1 rfl (lv_room (Nat.le_of_ble_eq_true rfl)) dX9_after_27 ⟨Nat.zero_le _, Nat.zero_le _⟩) ?_
    refine j_top (fun to eto => ?_)
    rw [hat] at eto
    refine lv_istore (lv' := [(4, .int (iI (to))), (3, .int (iI (q % 9))), (2, .int (iI ((q / 9) % 8))), (0, .ref h0), (1, .int (iI (q)))]) hx hb dX9_after_30 hl (by decide) rfl (fun ls hl => ?_)
    refine lv_iload hx hb dX9_after_32 (lv_at hl 0 rfl) ?_
    refine lv_iconst (v := iI (-1)) hx hb dX9_after_34 rfl ?_
    refine j_icmp_ne (tgt := 56) hx hb (by omega) dX9_after_35 (by decide) (fun c_35 => ?_) (fun c_35 => ?_)
    · refine lv_iload hx hb dX9_after_56 (lv_at hl 0 rfl) ?_
      refine j_if_ge (tgt := 63) hx hb (by omega) dX9_after_58 (by decide) (fun c_58 => ?_) (fun c_58 => ?_)
      · refine lv_aload_n hx hb dX9_after_63 rfl (lv_at hl 3 rfl) ?_
        refine va_get (D := D) (ci := 9) (v := .int (iI (wb))) (C := RX9) (T := TX9) (N := 4) hx hb hts UX9 hown hK hP 0 rfl rfl 3 (by decide) L48 (fun _ h9 => h9) rfl dX9_after_64 ?_
        refine j_if_ne (tgt := 78) hx hb (by omega) dX9_after_67 (by decide) (fun c_67 => ?_) (fun c_67 => ?_)
        · refine lv_iload_n hx hb dX9_after_78 rfl (lv_at hl 1 rfl) ?_
          refine lv_iconst (v := iI (1)) hx hb dX9_after_79 rfl ?_
          refine j_iadd hx hb dX9_after_80 ?_
          refine lv_aload_n hx hb dX9_after_81 rfl (lv_at hl 3 rfl) ?_
          refine va_get (D := D) (ci := 9) (v := .int (iI (wb))) (C := RX9) (T := TX9) (N := 4) hx hb hts UX9 hown hK hP 0 rfl rfl 3 (by decide) L48 (fun _ h9 => h9) rfl dX9_after_82 ?_
          refine j_icmp_lt (tgt := 103) hx hb (by omega) dX9_after_85 (by decide) (fun c_85 => ?_) (fun c_85 => ?_)
          · refine lv_iload hx hb dX9_after_103 (lv_at hl 0 rfl) ?_
            refine lv_iload_n hx hb dX9_after_105 rfl (lv_at hl 2 rfl) ?_
            refine lv_iload_n hx hb dX9_after_106 rfl (lv_at hl 1 rfl) ?_
            refine lv_iconst (v := iI (1)) hx hb dX9_after_107 rfl ?_
            refine j_iadd hx hb dX9_after_108 ?_
            refine j_rd (va_runSN (As := [.int (iI (to)), .int (iI ((q / 9) % 8)), .int (iI ((q % 9) + 1))]) (rest := []) ⟨hx, hb, hml, hown, hts⟩ (c_X10_standOf l D cI cZ z to ((q / 9) % 8) ((q % 9) + 1)  s.heap.size) ⟨va_cnB 3 hts gX9_after_X10_standOf_n59 rfl rfl rfl (hZ.2.2.2.2.2 _ (List.mem_of_getElem? (i := 17) rfl)) IRX10 hsX10_standOf ⟨Nat.le_of_ble_eq_true rfl, Nat.le_of_ble_eq_true rfl⟩, STyX10_standOf, trivial⟩ (j_preS hP hD hK hS hZ hA [] rfl rfl) rfl rfl hl.1 rfl (lv_room (Nat.le_of_ble_eq_true rfl)) dX9_after_109 ⟨Nat.zero_le _, Nat.zero_le _⟩) ?_
            rw [hQ]; exact jr_iret hx hb hr hlocks (jo_i (by rw [← hf.2.2.1 q hq.1 hq.2]; unfold nxI; omega)) dX9_after_112
          · refine lv_iload hx hb dX9_after_88 (lv_at hl 0 rfl) ?_
            refine lv_iload_n hx hb dX9_after_90 rfl (lv_at hl 2 rfl) ?_
            refine lv_iconst (v := iI (1)) hx hb dX9_after_91 rfl ?_
            refine j_iadd hx hb dX9_after_92 ?_
            refine lv_bipush (v := iI (8)) hx hb dX9_after_93 (by decide) ?_
            refine j_irem hx hb (by omega) dX9_after_95 ?_
            refine lv_iconst (v := iI (0)) hx hb dX9_after_96 rfl ?_
            refine j_rd (va_runSN (As := [.int (iI (to)), .int (iI ((((q / 9) % 8) + 1) % 8)), .int (iI (0))]) (rest := []) ⟨hx, hb, hml, hown, hts⟩ (c_X10_standOf l D cI cZ z to ((((q / 9) % 8) + 1) % 8) 0  s.heap.size) ⟨va_cnB 3 hts gX9_after_X10_standOf_n59 rfl rfl rfl (hZ.2.2.2.2.2 _ (List.mem_of_getElem? (i := 17) rfl)) IRX10 hsX10_standOf ⟨Nat.le_of_ble_eq_true rfl, Nat.le_of_ble_eq_true rfl⟩, STyX10_standOf, trivial⟩ (j_preS hP hD hK hS hZ hA [] rfl rfl) rfl rfl hl.1 rfl (lv_room (Nat.le_of_ble_eq_true rfl)) dX9_after_97 ⟨Nat.zero_le _, Nat.zero_le _⟩) ?_
            refine lv_goto (tgt := 112) hx hb dX9_after_100 (by decide) ?_
            rw [hQ]; exact jr_iret hx hb hr hlocks (jo_i (by rw [← hf.2.2.1 q hq.1 hq.2]; unfold nxI; omega)) dX9_after_112
        · refine lv_iload hx hb dX9_after_70 (lv_at hl 0 rfl) ?_
          refine lv_iload_n hx hb dX9_after_72 rfl (lv_at hl 2 rfl) ?_
          refine lv_iload_n hx hb dX9_after_73 rfl (lv_at hl 1 rfl) ?_
          refine j_rd (va_runSN (As := [.int (iI (to)), .int (iI ((q / 9) % 8)), .int (iI (q % 9))]) (rest := []) ⟨hx, hb, hml, hown, hts⟩ (c_X10_standOf l D cI cZ z to ((q / 9) % 8) (q % 9)  s.heap.size) ⟨va_cnB 3 hts gX9_after_X10_standOf_n59 rfl rfl rfl (hZ.2.2.2.2.2 _ (List.mem_of_getElem? (i := 17) rfl)) IRX10 hsX10_standOf ⟨Nat.le_of_ble_eq_true rfl, Nat.le_of_ble_eq_true rfl⟩, STyX10_standOf, trivial⟩ (j_preS hP hD hK hS hZ hA [] rfl rfl) rfl rfl hl.1 rfl (lv_room (Nat.le_of_ble_eq_true rfl)) dX9_after_74 ⟨Nat.zero_le _, Nat.zero_le _⟩) ?_
          rw [hQ]; exact jr_iret hx hb hr hlocks (jo_i (by rw [← hf.2.2.1 q hq.1 hq.2]; unfold nxI; omega)) dX9_after_77
      · refine lv_iconst (v := iI (-1)) hx hb dX9_after_61 rfl ?_
        rw [hQ]; exact jr_iret hx hb hr hlocks (jo_i (by rw [← hf.2.2.1 q hq.1 hq.2]; unfold nxI; omega)) dX9_after_62
    · refine lv_iload_n hx hb dX9_after_38 rfl (lv_at hl 4 rfl) ?_
      refine j_rd (va_runSN (As := [.int (iI (q))]) (rest := []) ⟨hx, hb, hml, hown, hts⟩ (c_X10_cellOf l D cI cZ z q (by first | assumption | omega) s.heap.size) ⟨va_cnB 1 hts gX9_after_X10_cellOf_n55 rfl rfl rfl (hZ.2.2.2.2.2 _ (List.mem_of_getElem? (i := 16) rfl)) IRX10 hsX10_cellOf ⟨Nat.le_of_ble_eq_true rfl, Nat.le_of_ble_eq_true rfl⟩, STyX10_cellOf, trivial⟩ (j_preS hP hD hK hS hZ hA [] rfl rfl) rfl rfl hl.1 rfl (lv_room (Nat.le_of_ble_eq_true rfl)) dX9_after_39 ⟨Nat.zero_le _, Nat.zero_le _⟩) ?_
      refine lv_iload_n hx hb dX9_after_42 rfl (lv_at hl 2 rfl) ?_
      refine lv_aload_n hx hb dX9_after_43 rfl (lv_at hl 3 rfl) ?_
      refine va_get (D := D) (ci := 9) (v := .int (iI (wt))) (C := RX9) (T := TX9) (N := 4) hx hb hts UX9 hown hK hP 0 rfl rfl 2 (by decide) L45 (fun _ h9 => h9) rfl dX9_after_44 ?_
      refine j_iadd hx hb dX9_after_47 ?_
      refine lv_bipush (v := iI (8)) hx hb dX9_after_48 (by decide) ?_
      refine j_irem hx hb (by omega) dX9_after_50 ?_
      refine lv_iload_n hx hb dX9_after_51 rfl (lv_at hl 1 rfl) ?_
      refine j_rd (va_runSN (As := [.int (iI (if 0 ≤ q then q / 72 else -9)), .int (iI ((((q / 9) % 8) + wt) % 8)), .int (iI (q % 9))]) (rest := []) ⟨hx, hb, hml, hown, hts⟩ (c_X10_standOf l D cI cZ z (if 0 ≤ q then q / 72 else -9) ((((q / 9) % 8) + wt) % 8) (q % 9)  s.heap.size) ⟨va_cnB 3 hts gX9_after_X10_standOf_n59 rfl rfl rfl (hZ.2.2.2.2.2 _ (List.mem_of_getElem? (i := 17) rfl)) IRX10 hsX10_standOf ⟨Nat.le_of_ble_eq_true rfl, Nat.le_of_ble_eq_true rfl⟩, STyX10_standOf, trivial⟩ (j_preS hP hD hK hS hZ hA [] rfl rfl) rfl rfl hl.1 rfl (lv_room (Nat.le_of_ble_eq_true rfl)) dX9_after_52 ⟨Nat.zero_le _, Nat.zero_le _⟩) ?_
      rw [hQ]; exact jr_iret hx hb hr hlocks (jo_i (by rw [← hf.2.2.1 q hq.1 hq.2]; unfold nxI; omega)) dX9_after_55
  · exact False.elim (by omega)
abbrev rmX9_turnsAt : Room := { frames := 1, cells := 0, slots := 0, locals := 21 }
set_option maxHeartbeats 4000000 in
set_option maxRecDepth 100000 in
theorem c_X9_turnsAt (l : Launch) (D : va_G) (cI cZ : ClassId) (z : jZT) (h0 h1 : Nat) (q ln wt wb : Int) (a : Int → Int) (N : Int) (hwa : ∀ j : Int, 0 ≤ j → j < 2048 → -2 ≤ a j ∧ a j < 256) (hN : N ≤ 18432) (hq : 0 ≤ q ∧ q < N) : jRd l yX9_turnsAt wsX9_turnsAt rmX9_turnsAt [.ref h0, .int (iI (q))] D cI cZ z [(h0, .inr (9, [.ref h1, .int (iI (ln)), .int (iI (wt)), .int (iI (wb))])), (h1, .inl (cI, 2048, .inl (aI a)))] (some (.int (iI (bI (decide (a (q / 9) = -1)))))) := by
  refine jRd_of (cc := cX9_turnsAt) (n := 2) (ret := (some .boolean)) (by decide) rfl (Nat.le_of_ble_eq_true rfl) ?_
  intro p e s m below meth c A ls args Q hQ F hA hZ hP hK hD hS hl
  obtain ⟨hx, hb, hr, hml, hown, hts, hlocks⟩ := F
  have hown : s.vm.findClass RX9 = some m.cls := hown
  have hl : lv_has ls 2 [(0, .ref h0), (1, .int (iI (q)))] := hl
  have L9 := hts (.fieldLink RX9 9 "TinMouse$Ways" "ahead" "[I") (by decide +kernel)
  have IRX10 := hts (.initialized RX10) (by decide +kernel)
  have STyX10_at := hts (.static yX10_at) (by decide +kernel)
  have UX9 : ∀ w ∈ wsX90, w ∈ wsX9_turnsAt := fun w h => List.mem_cons_of_mem _ (List.mem_append_right _ h)
  have hat : atI ((2048 : Nat) : Int) a (q / 9) = a (q / 9) := atI_in (by omega)
  have hra := hwa (q / 9) (by omega) (by omega)
  refine lv_iload_n hx hb dX9_turnsAt_0 rfl (lv_at hl 1 rfl) ?_
  refine j_if_lt (tgt := 23) hx hb (by omega) dX9_turnsAt_1 (by decide) (fun c_1 => ?_) (fun c_1 => ?_)
  · exact False.elim (by omega)
  · refine lv_aload_n hx hb dX9_turnsAt_4 rfl (lv_at hl 0 rfl) ?_
    refine va_get (D := D) (ci := 9) (v := .ref h1) (C := RX9) (T := TX9) (N := 4) hx hb hts UX9 hown hK hP 0 rfl rfl 0 (by decide) L9 (fun _ h9 => h9) rfl dX9_turnsAt_5 ?_
    refine lv_iload_n hx hb dX9_turnsAt_8 rfl (lv_at hl 1 rfl) ?_
    refine lv_bipush (v := iI (9)) hx hb dX9_turnsAt_9 (by decide) ?_
    refine j_idiv hx hb (by omega) dX9_turnsAt_11 ?_
    refine j_rd (va_runSN (As := [.ref h1, .int (iI (q / 9))]) (rest := []) ⟨hx, hb, hml, hown, hts⟩ (c_X10_at l D cI cZ z h1 (q / 9) a 2048 (by first | assumption | omega) (by first | assumption | omega) s.heap.size) ⟨va_cnB 2 hts gX9_turnsAt_X10_at_n51 rfl rfl rfl (hZ.2.2.2.2.2 _ (List.mem_of_getElem? (i := 15) rfl)) IRX10 hsX10_at ⟨Nat.le_of_ble_eq_true rfl, Nat.le_of_ble_eq_true rfl⟩, STyX10_at, trivial⟩ (j_preS hP hD hK hS hZ hA [1] rfl rfl) rfl rfl hl.1 rfl (lv_room (Nat.le_of_ble_eq_true rfl)) dX9_turnsAt_12 ⟨Nat.zero_le _, Nat.zero_le _⟩) ?_
    refine j_top (fun to eto => ?_)
    rw [hat] at eto
    refine lv_iconst (v := iI (-1)) hx hb dX9_turnsAt_15 rfl ?_
    refine j_icmp_ne (tgt := 23) hx hb (by omega) dX9_turnsAt_16 (by decide) (fun c_16 => ?_) (fun c_16 => ?_)
    · refine lv_iconst (v := iI (0)) hx hb dX9_turnsAt_23 rfl ?_
      rw [hQ]; exact jr_zret hx hb hr hlocks jn_0 (jo_i (by first | (rw [decide_eq_true (by omega)]; rfl) | (rw [decide_eq_false (by omega)]; rfl))) dX9_turnsAt_24
    · refine lv_iconst (v := iI (1)) hx hb dX9_turnsAt_19 rfl ?_
      refine lv_goto (tgt := 24) hx hb dX9_turnsAt_20 (by decide) ?_
      rw [hQ]; exact jr_zret hx hb hr hlocks jn_1 (jo_i (by first | (rw [decide_eq_true (by omega)]; rfl) | (rw [decide_eq_false (by omega)]; rfl))) dX9_turnsAt_24
theorem hsX7_turnsAt : yX7_turnsAt.cls ≠ "java/lang/invoke/MethodHandle" ∧ yX7_turnsAt.cls ≠ "java/lang/invoke/VarHandle" ∧ (parseMethodDescriptor yX7_turnsAt.desc).map (fun d => d.parameters.length) = some 3 := by decide +kernel
theorem hvX7_turnsAt : yX7_turnsAt.cls = RX7 ∧ yX7_turnsAt.cls ≠ "java/lang/invoke/MethodHandle" ∧ yX7_turnsAt.cls ≠ "java/lang/invoke/VarHandle" ∧ (parseMethodDescriptor yX7_turnsAt.desc).map (fun d => d.parameters.length) = some 3 := ⟨rfl, hsX7_turnsAt⟩
abbrev rmX9_leads : Room := { frames := 3, cells := 0, slots := 0, locals := 70 }
set_option maxHeartbeats 4000000 in
set_option maxRecDepth 100000 in
theorem c_X9_leads (l : Launch) (D : va_G) (cI cZ : ClassId) (z : jZT) (h0 h1 : Nat) (k d far Wi Hi bl sc sd no tu be sp : Int) (g : Int → Int) (hW : 3 ≤ Wi ∧ Wi ≤ 16) (hH : 3 ≤ Hi ∧ Hi ≤ 16) (hg : ∀ j : Int, 0 ≤ j → j < 256 → 0 ≤ g j ∧ g j ≤ 2) (hk : 0 ≤ k ∧ k < Wi * Hi) (hd : 0 ≤ d ∧ d < 8) (hfar : 0 ≤ far ∧ far ≤ 3) : jRd l yX9_leads wsX9_leads rmX9_leads [.ref h0, .int (iI (k)), .int (iI (d)), .int (iI (far))] D cI cZ z [(h0, .inr (7, [.ref h1, .int (iI (Wi)), .int (iI (Hi)), .int (iI (bl)), .int (iI (sc)), .int (iI (sd)), .int (iI (no)), .int (iI (tu)), .int (iI (be)), .int (iI (sp))])), (h1, .inl (cI, 256, .inl (aI g)))] (some (.int (iI (ldI Wi Hi g far (k * 8 + d))))) := by
  refine jRd_of (cc := cX9_leads) (n := 5) (ret := (some .int)) (by decide) rfl (Nat.le_of_ble_eq_true rfl) ?_
  intro p e s m below meth c A ls args Q hQ F hA hZ hP hK hD hS hl
  obtain ⟨hx, hb, hr, hml, hown, hts, hlocks⟩ := F
  have hown : s.vm.findClass RX9 = some m.cls := hown
  have hl : lv_has ls 5 [(0, .ref h0), (1, .int (iI (k))), (2, .int (iI (d))), (3, .int (iI (far)))] := hl
  have hwh := wh_rng hW hH
  have ho1 := offI_rng hW hH k d 1
  have hq1 : (k * 8 + d) / 8 = k := by omega
  have hq2 : (k * 8 + d) % 8 = d := by omega
  refine lv_aload_n hx hb dX9_leads_0 rfl (lv_at hl 0 rfl) ?_
  refine lv_iload_n hx hb dX9_leads_1 rfl (lv_at hl 1 rfl) ?_
  refine lv_iload_n hx hb dX9_leads_2 rfl (lv_at hl 2 rfl) ?_
  refine lv_iload_n hx hb dX9_leads_3 rfl (lv_at hl 3 rfl) ?_
  refine j_rd (va_runV (As := [.int (iI (k)), .int (iI (d)), .int (iI (far))]) (rest := []) ⟨hx, hb, hml, hown, hts⟩ (c_X7_turnsAt l D cI cZ z h0 h1 k d far Wi Hi bl sc sd no tu be sp g (by first | assumption | omega) (by first | assumption | omega) (by first | assumption | omega) (by first | assumption | omega) (by first | assumption | omega) (by first | assumption | omega) s.heap.size) (cwV 3 hts gX9_leads_X7_turnsAt rfl rfl rfl hvX7_turnsAt ⟨Nat.le_of_ble_eq_true rfl, Nat.le_of_ble_eq_true rfl⟩) (j_preV hP hD hK hS hZ hA [0, 1] rfl rfl 0 rfl rfl) rfl rfl hl.1 rfl (lv_room (Nat.le_of_ble_eq_true rfl)) dX9_leads_4 ⟨Nat.zero_le _, Nat.zero_le _⟩) ?_
  refine j_ifeq_b (tgt := 12) hx hb dX9_leads_7 (by decide) (fun c_7 => ?_) (fun c_7 => ?_)
  · refine lv_aload_n hx hb dX9_leads_12 rfl (lv_at hl 0 rfl) ?_
    refine lv_iload_n hx hb dX9_leads_13 rfl (lv_at hl 1 rfl) ?_
    refine lv_iload_n hx hb dX9_leads_14 rfl (lv_at hl 2 rfl) ?_
    refine lv_iconst (v := iI (1)) hx hb dX9_leads_15 rfl ?_
    refine j_rd (va_runV (As := [.int (iI (k)), .int (iI (d)), .int (iI (1))]) (rest := []) ⟨hx, hb, hml, hown, hts⟩ (c_X7_off l D cI cZ z h0 h1 k d 1 Wi Hi bl sc sd no tu be sp g (by first | assumption | omega) (by first | assumption | omega) (by first | assumption | omega) (by first | assumption | omega) (by first | assumption | omega) s.heap.size) (cwV 3 hts gX9_leads_X7_off rfl rfl rfl hvX7_off ⟨Nat.le_of_ble_eq_true rfl, Nat.le_of_ble_eq_true rfl⟩) (j_preV hP hD hK hS hZ hA [0, 1] rfl rfl 0 rfl rfl) rfl rfl hl.1 rfl (lv_room (Nat.le_of_ble_eq_true rfl)) dX9_leads_16 ⟨Nat.zero_le _, Nat.zero_le _⟩) ?_
    refine lv_istore (lv' := [(4, .int (iI (offI Wi Hi k d 1))), (0, .ref h0), (1, .int (iI (k))), (2, .int (iI (d))), (3, .int (iI (far)))]) hx hb dX9_leads_19 hl (by decide) rfl (fun ls hl => ?_)
    refine lv_aload_n hx hb dX9_leads_21 rfl (lv_at hl 1 rfl) ?_
    refine lv_iload hx hb dX9_leads_22 (lv_at hl 0 rfl) ?_
    refine j_rd (va_runV (As := [.int (iI (offI Wi Hi k d 1))]) (rest := []) ⟨hx, hb, hml, hown, hts⟩ (c_X7_isWood l D cI cZ z h0 h1 (offI Wi Hi k d 1) Wi Hi bl sc sd no tu be sp g (by first | assumption | omega) (by first | assumption | omega) (by first | assumption | omega) (by first | assumption | omega) s.heap.size) (cwV 1 hts gX9_leads_X7_isWood rfl rfl rfl hvX7_isWood ⟨Nat.le_of_ble_eq_true rfl, Nat.le_of_ble_eq_true rfl⟩) (j_preV hP hD hK hS hZ hA [0, 1] rfl rfl 0 rfl rfl) rfl rfl hl.1 rfl (lv_room (Nat.le_of_ble_eq_true rfl)) dX9_leads_24 ⟨Nat.zero_le _, Nat.zero_le _⟩) ?_
    refine j_ifeq_b (tgt := 35) hx hb dX9_leads_27 (by decide) (fun c_27 => ?_) (fun c_27 => ?_)
    · refine lv_bipush (v := iI (-2)) hx hb dX9_leads_35 (by decide) ?_
      rw [hQ]; exact jr_iret hx hb hr hlocks (jo_i (by unfold ldI; rw [hq1, hq2]; simp [*])) dX9_leads_37
    · refine lv_iload hx hb dX9_leads_30 (lv_at hl 0 rfl) ?_
      refine lv_goto (tgt := 37) hx hb dX9_leads_32 (by decide) ?_
      rw [hQ]; exact jr_iret hx hb hr hlocks (jo_i (by unfold ldI; rw [hq1, hq2]; simp [*])) dX9_leads_37
  · refine lv_iconst (v := iI (-1)) hx hb dX9_leads_10 rfl ?_
    rw [hQ]; exact jr_iret hx hb hr hlocks (jo_i (by unfold ldI; rw [hq1, hq2]; simp [*])) dX9_leads_11
theorem hsX7_size : yX7_size.cls ≠ "java/lang/invoke/MethodHandle" ∧ yX7_size.cls ≠ "java/lang/invoke/VarHandle" ∧ (parseMethodDescriptor yX7_size.desc).map (fun d => d.parameters.length) = some 0 := by decide +kernel
theorem hvX7_size : yX7_size.cls = RX7 ∧ yX7_size.cls ≠ "java/lang/invoke/MethodHandle" ∧ yX7_size.cls ≠ "java/lang/invoke/VarHandle" ∧ (parseMethodDescriptor yX7_size.desc).map (fun d => d.parameters.length) = some 0 := ⟨rfl, hsX7_size⟩
theorem hsX9_leads : yX9_leads.cls ≠ "java/lang/invoke/MethodHandle" ∧ yX9_leads.cls ≠ "java/lang/invoke/VarHandle" ∧ (parseMethodDescriptor yX9_leads.desc).map (fun d => d.parameters.length) = some 4 := by decide +kernel
theorem hvX9_leads : yX9_leads.cls = RX9 ∧ yX9_leads.cls ≠ "java/lang/invoke/MethodHandle" ∧ yX9_leads.cls ≠ "java/lang/invoke/VarHandle" ∧ (parseMethodDescriptor yX9_leads.desc).map (fun d => d.parameters.length) = some 4 := ⟨rfl, hsX9_leads⟩
abbrev rmX9_lay : Room := { frames := 4, cells := 0, slots := 0, locals := 94 }
set_option maxHeartbeats 4000000 in
set_option maxRecDepth 100000 in
theorem c_X9_lay (l : Launch) (D : va_G) (cI cZ : ClassId) (z : jZT) (h2 h0 h1 h3 : Nat) (far Wi Hi bl sc sd no tu be sp ln wt wb : Int) (g a : Int → Int) (hW : 3 ≤ Wi ∧ Wi ≤ 16) (hH : 3 ≤ Hi ∧ Hi ≤ 16) (hg : ∀ j : Int, 0 ≤ j → j < 256 → 0 ≤ g j ∧ g j ≤ 2) (hfar : 1 ≤ far ∧ far ≤ 3) (hwa : ∀ j : Int, 0 ≤ j → j < 2048 → -2 ≤ a j ∧ a j < 256) (hln : 0 ≤ ln ∧ ln ≤ 3) (hla : ln ≠ 0 → ∀ j : Int, 0 ≤ j → j < 8 * (Wi * Hi) → a j = ldI Wi Hi g ln j) : jMu (S := (Int → Int)) l yX9_lay wsX9_lay rmX9_lay [.ref h2, .ref h0, .int (iI (far))] D cI cZ z [(h0, .inr (7, [.ref h1, .int (iI (Wi)), .int (iI (Hi)), .int (iI (bl)), .int (iI (sc)), .int (iI (sd)), .int (iI (no)), .int (iI (tu)), .int (iI (be)), .int (iI (sp))])), (h1, .inl (cI, 256, .inl (aI g))), (h2, .inr (9, [.ref h3, .int (iI (ln)), .int (iI (wt)), .int (iI (wb))])), (h3, .inl (cI, 2048, .inl (aI a)))] (fun u => none) (fun u => (∀ j : Int, 0 ≤ j → j < 2048 → -2 ≤ u j ∧ u j < 256) ∧ ∀ j : Int, 0 ≤ j → j < 8 * (Wi * Hi) → u j = ldI Wi Hi g far j) (fun u => [(h0, .inr (7, [.ref h1, .int (iI (Wi)), .int (iI (Hi)), .int (iI (bl)), .int (iI (sc)), .int (iI (sd)), .int (iI (no)), .int (iI (tu)), .int (iI (be)), .int (iI (sp))])), (h1, .inl (cI, 256, .inl (aI g))), (h2, .inr (9, [.ref h3, .int (iI (far)), .int (iI (wt)), .int (iI (wb))])), (h3, .inl (cI, 2048, .inl (aI u)))]) := by
  refine jMu_of (cc := cX9_lay) (n := 5) (ret := none) (by decide) rfl (Nat.le_of_ble_eq_true rfl) ?_
  intro p e s m below meth c A ls args Q hQ F hA hZ hP hK hD hS hl
  obtain ⟨hx, hb, hr, hml, hown, hts, hlocks⟩ := F
  have hown : s.vm.findClass RX9 = some m.cls := hown
  have hl : lv_has ls 5 [(0, .ref h2), (1, .ref h0), (2, .int (iI (far)))] := hl
  have L15 := hts (.fieldLink RX9 15 "TinMouse$Ways" "laidNose" "I") (by decide +kernel)
  have L9 := hts (.fieldLink RX9 9 "TinMouse$Ways" "ahead" "[I") (by decide +kernel)
  have IRX10 := hts (.initialized RX10) (by decide +kernel)
  have STyX10_set := hts (.static yX10_set) (by decide +kernel)
  have UX9 : ∀ w ∈ wsX90, w ∈ wsX9_lay := fun w h => List.mem_cons_of_mem _ (List.mem_append_left _ (List.mem_append_right _ h))
  have hwh := wh_rng hW hH
  refine lv_iload_n hx hb dX9_lay_0 rfl (lv_at hl 2 rfl) ?_
  refine lv_aload_n hx hb dX9_lay_1 rfl (lv_at hl 0 rfl) ?_
  refine va_get (D := D) (ci := 9) (v := .int (iI (ln))) (C := RX9) (T := TX9) (N := 4) hx hb hts UX9 hown hK hP 2 rfl rfl 1 (by decide) L15 (fun _ h9 => h9) rfl dX9_lay_2 ?_
  refine j_icmp_ne (tgt := 9) hx hb (by omega) dX9_lay_5 (by decide) (fun c_5 => ?_) (fun c_5 => ?_)
  · refine lv_iconst (v := iI (0)) hx hb dX9_lay_9 rfl ?_
    refine lv_istore_n (lv' := [(3, .int (iI (0))), (0, .ref h2), (1, .ref h0), (2, .int (iI (far)))]) hx hb dX9_lay_10 rfl hl (by decide) rfl (fun ls hl => ?_)
    have loop_11 : ∀ (fuel_11 : Nat) (k : Int) (a8 : Int → Int), (0 ≤ k ∧ k ≤ Wi * Hi ∧ (∀ j : Int, 0 ≤ j → j < 2048 → -2 ≤ a8 j ∧ a8 j < 256) ∧ ∀ j : Int, 0 ≤ j → j < 8 * k → a8 j = ldI Wi Hi g far j) → (Wi * Hi - k).toNat < fuel_11 → ∀ (H : Heap) (locs : List Loc), va_P D vwCl [(h0, .inr (7, [.ref h1, .int (iI (Wi)), .int (iI (Hi)), .int (iI (bl)), .int (iI (sc)), .int (iI (sd)), .int (iI (no)), .int (iI (tu)), .int (iI (be)), .int (iI (sp))])), (h1, .inl (cI, 256, .inl (aI g))), (h2, .inr (9, [.ref h3, .int (iI (ln)), .int (iI (wt)), .int (iI (wb))])), (h3, .inl (cI, 2048, .inl (aI a8)))] H → va_D A [(h0, .inr (7, [.ref h1, .int (iI (Wi)), .int (iI (Hi)), .int (iI (bl)), .int (iI (sc)), .int (iI (sd)), .int (iI (no)), .int (iI (tu)), .int (iI (be)), .int (iI (sp))])), (h1, .inl (cI, 256, .inl (aI g))), (h2, .inr (9, [.ref h3, .int (iI (ln)), .int (iI (wt)), .int (iI (wb))])), (h3, .inl (cI, 2048, .inl (aI a8)))] → va_S A s.heap H locs → ∀ ls : Array Slot, lv_has ls 5 [(0, .ref h2), (1, .ref h0), (2, .int (iI (far))), (3, .int (iI (k)))] → W p l e rmX9_lay s m args below meth c H locs 0 0 Q (F0 m 11 ls []) := by
      intro fuel_11
      induction fuel_11 with
      | zero => intro k a8 hI9 hm9; exact absurd hm9 (Nat.not_lt_zero _)
      | succ fuel_11 ih_11 =>
        intro k a8 hI_11 hm_11 H locs hP hD hS ls hl
        obtain ⟨hi1, hi2, hi3, hi4⟩ := hI_11
        refine lv_iload_n hx hb dX9_lay_11 rfl (lv_at hl 3 rfl) ?_
        refine lv_aload_n hx hb dX9_lay_12 rfl (lv_at hl 1 rfl) ?_
        refine j_rd (va_runV (As := []) (rest := [.int (iI (k))]) ⟨hx, hb, hml, hown, hts⟩ (c_X7_size l D cI cZ z h0 h1 Wi Hi bl sc sd no tu be sp g  H.size) (cwV 0 hts gX9_lay_X7_size rfl rfl rfl hvX7_size ⟨Nat.le_of_ble_eq_true rfl, Nat.le_of_ble_eq_true rfl⟩) (j_preV hP hD hK hS hZ hA [0, 1] rfl rfl 0 rfl rfl) rfl rfl hl.1 rfl (lv_room (Nat.le_of_ble_eq_true rfl)) dX9_lay_13 ⟨Nat.zero_le _, Nat.zero_le _⟩) ?_
        refine j_icmp_ge (tgt := 63) hx hb (by omega) dX9_lay_16 (by decide) (fun c_16 => ?_) (fun c_16 => ?_)
        · refine lv_aload_n hx hb dX9_lay_63 rfl (lv_at hl 0 rfl) ?_
          refine lv_iload_n hx hb dX9_lay_64 rfl (lv_at hl 2 rfl) ?_
          refine va_put (D := D) (ci := 9) (v := .int (iI (far))) (ty := .int) (C := RX9) (T := TX9) (N := 4) hx hb hts UX9 tyX9 tyX9_ok nmX9 hown hK hP hD hS 2 rfl rfl 1 (by decide) L15 (fun _ h9 => h9) rfl rfl rfl rfl (Nat.le_of_ble_eq_true rfl) dX9_lay_65 (fun H locs hP hD hS => ?_)
          have hP : va_P D vwCl [(h0, .inr (7, [.ref h1, .int (iI (Wi)), .int (iI (Hi)), .int (iI (bl)), .int (iI (sc)), .int (iI (sd)), .int (iI (no)), .int (iI (tu)), .int (iI (be)), .int (iI (sp))])), (h1, .inl (cI, 256, .inl (aI g))), (h2, .inr (9, [.ref h3, .int (iI (far)), .int (iI (wt)), .int (iI (wb))])), (h3, .inl (cI, 2048, .inl (aI a8)))] H := hP
          have hD : va_D A [(h0, .inr (7, [.ref h1, .int (iI (Wi)), .int (iI (Hi)), .int (iI (bl)), .int (iI (sc)), .int (iI (sd)), .int (iI (no)), .int (iI (tu)), .int (iI (be)), .int (iI (sp))])), (h1, .inl (cI, 256, .inl (aI g))), (h2, .inr (9, [.ref h3, .int (iI (far)), .int (iI (wt)), .int (iI (wb))])), (h3, .inl (cI, 2048, .inl (aI a8)))] := hD
          rw [hQ]; exact jm_vret a8 hx hb hr hlocks hS hP rfl (by (try dsimp only); first | exact ⟨hwa, hla (by omega)⟩ | exact ⟨hi3, fun j h1 h2 => hi4 j h1 (by omega)⟩) dX9_lay_68
        · refine lv_iconst (v := iI (0)) hx hb dX9_lay_19 rfl ?_
          refine lv_istore (lv' := [(4, .int (iI (0))), (0, .ref h2), (1, .ref h0), (2, .int (iI (far))), (3, .int (iI (k)))]) hx hb dX9_lay_20 hl (by decide) rfl (fun ls hl => ?_)
          have loop_22 : ∀ (fuel_22 : Nat) (d : Int) (a9 : Int → Int), (0 ≤ d ∧ d ≤ 8 ∧ (∀ j : Int, 0 ≤ j → j < 2048 → -2 ≤ a9 j ∧ a9 j < 256) ∧ ∀ j : Int, 0 ≤ j → j < 8 * k + d → a9 j = ldI Wi Hi g far j) → (8 - d).toNat < fuel_22 → ∀ (H : Heap) (locs : List Loc), va_P D vwCl [(h0, .inr (7, [.ref h1, .int (iI (Wi)), .int (iI (Hi)), .int (iI (bl)), .int (iI (sc)), .int (iI (sd)), .int (iI (no)), .int (iI (tu)), .int (iI (be)), .int (iI (sp))])), (h1, .inl (cI, 256, .inl (aI g))), (h2, .inr (9, [.ref h3, .int (iI (ln)), .int (iI (wt)), .int (iI (wb))])), (h3, .inl (cI, 2048, .inl (aI a9)))] H → va_D A [(h0, .inr (7, [.ref h1, .int (iI (Wi)), .int (iI (Hi)), .int (iI (bl)), .int (iI (sc)), .int (iI (sd)), .int (iI (no)), .int (iI (tu)), .int (iI (be)), .int (iI (sp))])), (h1, .inl (cI, 256, .inl (aI g))), (h2, .inr (9, [.ref h3, .int (iI (ln)), .int (iI (wt)), .int (iI (wb))])), (h3, .inl (cI, 2048, .inl (aI a9)))] → va_S A s.heap H locs → ∀ ls : Array Slot, lv_has ls 5 [(0, .ref h2), (1, .ref h0), (2, .int (iI (far))), (3, .int (iI (k))), (4, .int (iI (d)))] → W p l e rmX9_lay s m args below meth c H locs 0 0 Q (F0 m 22 ls []) := by
            intro fuel_22
            induction fuel_22 with
            | zero => intro d a9 hI9 hm9; exact absurd hm9 (Nat.not_lt_zero _)
            | succ fuel_22 ih_22 =>
              intro d a9 hI_22 hm_22 H locs hP hD hS ls hl
              obtain ⟨hj1, hj2, hj3, hj4⟩ := hI_22
              refine lv_iload hx hb dX9_lay_22 (lv_at hl 4 rfl) ?_
              refine lv_bipush (v := iI (8)) hx hb dX9_lay_24 (by decide) ?_
              refine j_icmp_ge (tgt := 57) hx hb (by omega) dX9_lay_26 (by decide) (fun c_26 => ?_) (fun c_26 => ?_)
              · refine lv_iinc (v := iI (k + 1)) (lv' := [(3, .int (iI (k + 1))), (0, .ref h2), (1, .ref h0), (2, .int (iI (far))), (4, .int (iI (d)))]) hx hb dX9_lay_57 hl (k := 3) rfl (iI_add _ _) (by decide) rfl (fun ls hl => ?_)
                refine lv_goto (tgt := 11) hx hb dX9_lay_60 (by decide) ?_
                exact ih_11 ((k + 1)) a9 (by exact ⟨by omega, by omega, hj3, fun j h1 h2 => hj4 j h1 (by omega)⟩) (by omega) H locs hP hD hS ls (lv_sub hl [1, 2, 3, 0] rfl)
              · refine lv_aload_n hx hb dX9_lay_29 rfl (lv_at hl 0 rfl) ?_
                refine va_get (D := D) (ci := 9) (v := .ref h3) (C := RX9) (T := TX9) (N := 4) hx hb hts UX9 hown hK hP 2 rfl rfl 0 (by decide) L9 (fun _ h9 => h9) rfl dX9_lay_30 ?_
                refine lv_iload_n hx hb dX9_lay_33 rfl (lv_at hl 3 rfl) ?_
                refine lv_bipush (v := iI (8)) hx hb dX9_lay_34 (by decide) ?_
                refine j_imul hx hb dX9_lay_36 ?_
                refine lv_iload hx hb dX9_lay_37 (lv_at hl 4 rfl) ?_
                refine j_iadd hx hb dX9_lay_39 ?_
                refine lv_aload_n hx hb dX9_lay_40 rfl (lv_at hl 1 rfl) ?_
                refine lv_iload_n hx hb dX9_lay_41 rfl (lv_at hl 3 rfl) ?_
                refine lv_iload hx hb dX9_lay_42 (lv_at hl 4 rfl) ?_
                refine lv_iload_n hx hb dX9_lay_44 rfl (lv_at hl 2 rfl) ?_
                refine j_rd (va_runS (As := [.ref h0, .int (iI (k)), .int (iI (d)), .int (iI (far))]) (rest := [.int (iI ((k * 8) + d)), .ref h3]) ⟨hx, hb, hml, hown, hts⟩ (c_X9_leads l D cI cZ z h0 h1 k d far Wi Hi bl sc sd no tu be sp g (by first | assumption | omega) (by first | assumption | omega) (by first | assumption | omega) (by first | assumption | omega) (by first | assumption | omega) (by first | assumption | omega) H.size) (va_cwS 4 hts gX9_lay_X9_leads rfl rfl rfl hsX9_leads ⟨Nat.le_of_ble_eq_true rfl, Nat.le_of_ble_eq_true rfl⟩) (j_preS hP hD hK hS hZ hA [0, 1] rfl rfl) rfl rfl hl.1 rfl (lv_room (Nat.le_of_ble_eq_true rfl)) dX9_lay_45 ⟨Nat.zero_le _, Nat.zero_le _⟩) ?_
                refine j_muv (va_runSN (As := [.ref h3, .int (iI ((k * 8) + d)), .int (iI (ldI Wi Hi g far (k * 8 + d)))]) (rest := []) ⟨hx, hb, hml, hown, hts⟩ (c_X10_set l D cI cZ z h3 ((k * 8) + d) (ldI Wi Hi g far (k * 8 + d)) a9 2048 (by first | assumption | omega) (by first | assumption | omega) H.size) ⟨va_cnB 3 hts gX9_lay_X10_set_n29 rfl rfl rfl (hZ.2.2.2.2.2 _ (List.mem_of_getElem? (i := 12) rfl)) IRX10 hsX10_set ⟨Nat.le_of_ble_eq_true rfl, Nat.le_of_ble_eq_true rfl⟩, STyX10_set, trivial⟩ (j_preS hP hD hK hS hZ hA [3] rfl rfl) rfl rfl hl.1 rfl (lv_room (Nat.le_of_ble_eq_true rfl)) dX9_lay_48 ⟨Nat.zero_le _, Nat.zero_le _⟩) hP hD hS hA [3] rfl (fun _ => rfl) (fun g2_1 H locs hw_48 hP hD hS => ?_)
                have hP : va_P D vwCl [(h0, .inr (7, [.ref h1, .int (iI (Wi)), .int (iI (Hi)), .int (iI (bl)), .int (iI (sc)), .int (iI (sd)), .int (iI (no)), .int (iI (tu)), .int (iI (be)), .int (iI (sp))])), (h1, .inl (cI, 256, .inl (aI g))), (h2, .inr (9, [.ref h3, .int (iI (ln)), .int (iI (wt)), .int (iI (wb))])), (h3, .inl (cI, 2048, .inl (aI g2_1)))] H := hP
                have hD : va_D A [(h0, .inr (7, [.ref h1, .int (iI (Wi)), .int (iI (Hi)), .int (iI (bl)), .int (iI (sc)), .int (iI (sd)), .int (iI (no)), .int (iI (tu)), .int (iI (be)), .int (iI (sp))])), (h1, .inl (cI, 256, .inl (aI g))), (h2, .inr (9, [.ref h3, .int (iI (ln)), .int (iI (wt)), .int (iI (wb))])), (h3, .inl (cI, 2048, .inl (aI g2_1)))] := hD
                refine lv_iinc (v := iI (d + 1)) (lv' := [(4, .int (iI (d + 1))), (0, .ref h2), (1, .ref h0), (2, .int (iI (far))), (3, .int (iI (k)))]) hx hb dX9_lay_51 hl (k := 4) rfl (iI_add _ _) (by decide) rfl (fun ls hl => ?_)
                refine lv_goto (tgt := 22) hx hb dX9_lay_54 (by decide) ?_
                exact ih_22 ((d + 1)) g2_1 (by rw [hw_48, setI_in (by omega)]; exact lay_step hW hH hj1 (by omega) hi1 (by omega) hwh hj3 hj4) (by omega) H locs hP hD hS ls (lv_sub hl [1, 2, 3, 4, 0] rfl)
          exact loop_22 _ 0 a8 (by exact ⟨by omega, by omega, hi3, fun j h1 h2 => hi4 j h1 (by omega)⟩) (Nat.lt_succ_self _) H locs hP hD hS ls (lv_sub hl [1, 2, 3, 4, 0] rfl)
    exact loop_11 _ 0 a (by exact ⟨by omega, by omega, hwa, fun j h1 h2 => by omega⟩) (Nat.lt_succ_self _) s.heap [] hP hD hS ls (lv_sub hl [1, 2, 3, 0] rfl)
  · subst c_5
    rw [hQ]; exact jm_vret a hx hb hr hlocks hS hP rfl (by (try dsimp only); first | exact ⟨hwa, hla (by omega)⟩ | exact ⟨hi3, fun j h1 h2 => hi4 j h1 (by omega)⟩) dX9_lay_8
