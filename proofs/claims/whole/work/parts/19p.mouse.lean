abbrev rmX10_draw : Room := { frames := 0, cells := 0, slots := 0, locals := 0 }
set_option maxHeartbeats 4000000 in
set_option maxRecDepth 100000 in
theorem c_X10_draw (l : Launch) (D : va_G) (cI cZ : ClassId) (z : jZT) (h0 h20 h21 h10 h12 h14 h15 h16 h8 h1 h6 h2 h3 h17 h18 h19 : Nat) (tk9 lt tra : Int) : jMu (S := Unit) l yX10_draw wsX10_draw rmX10_draw [.ref h0] D cI cZ z [(h0, .inr (10, [.ref h20, .ref h21, .ref h10, .ref h12, .ref h14, .ref h15, .ref h16, .ref h8, .ref h1, .ref h6, .ref h2, .ref h3, .ref h17, .ref h18, .int (iI (tk9)), .ref h19, .int (iI (lt)), .long (lI (tra))]))] (fun u => some (.int (iI (drU (lotN lt))))) (fun u => True) (fun u => [(h0, .inr (10, [.ref h20, .ref h21, .ref h10, .ref h12, .ref h14, .ref h15, .ref h16, .ref h8, .ref h1, .ref h6, .ref h2, .ref h3, .ref h17, .ref h18, .int (iI (tk9)), .ref h19, .int (iI (lt * 1103515245 + 12345)), .long (lI (tra))]))]) := by
  refine jMu_of (cc := cX10_draw) (n := 1) (ret := (some .int)) (by decide) rfl (Nat.le_of_ble_eq_true rfl) ?_
  intro p e s m below meth c A ls args Q hQ F hA hZ hP hK hD hS hl
  obtain ⟨hx, hb, hr, hml, hown, hts, hlocks⟩ := F
  have hown : s.vm.findClass RX10 = some m.cls := hown
  have hl : lv_has ls 1 [(0, .ref h0)] := hl
  have L103 := hts (.fieldLink RX10 103 "TinMouse" "lot" "I") (by decide +kernel)
  have C320 := hts (.constant RX10 320 (1103515245)) (by decide +kernel)
  have UX10 : ∀ w ∈ wsX100, w ∈ wsX10_draw := fun w h => List.mem_cons_of_mem _ (List.mem_append_right _ h)
  refine lv_aload_n hx hb dX10_draw_0 rfl (lv_at hl 0 rfl) ?_
  refine lv_aload_n hx hb dX10_draw_1 rfl (lv_at hl 0 rfl) ?_
  refine va_get (D := D) (ci := 10) (v := .int (iI (lt))) (C := RX10) (T := TX10) (N := 18) hx hb hts UX10 hown hK hP 0 rfl rfl 16 (by decide) L103 (fun _ h9 => h9) rfl dX10_draw_2 ?_
  refine lv_ldcw (v := iI (1103515245)) hx hb hown C320 dX10_draw_5 ?_
  refine j_imul hx hb dX10_draw_8 ?_
  refine lv_sipush (v := iI (12345)) hx hb dX10_draw_9 (by decide) ?_
  refine j_iadd hx hb dX10_draw_12 ?_
  refine va_put (D := D) (ci := 10) (v := .int (iI ((lt * 1103515245) + 12345))) (ty := .int) (C := RX10) (T := TX10) (N := 18) hx hb hts UX10 tyX10 tyX10_ok nmX10 hown hK hP hD hS 0 rfl rfl 16 (by decide) L103 (fun _ h9 => h9) rfl rfl rfl rfl (Nat.le_of_ble_eq_true rfl) dX10_draw_13 (fun H locs hP hD hS => ?_)
  have hP : va_P D vwCl [(h0, .inr (10, [.ref h20, .ref h21, .ref h10, .ref h12, .ref h14, .ref h15, .ref h16, .ref h8, .ref h1, .ref h6, .ref h2, .ref h3, .ref h17, .ref h18, .int (iI (tk9)), .ref h19, .int (iI ((lt * 1103515245) + 12345)), .long (lI (tra))]))] H := hP
  have hD : va_D A [(h0, .inr (10, [.ref h20, .ref h21, .ref h10, .ref h12, .ref h14, .ref h15, .ref h16, .ref h8, .ref h1, .ref h6, .ref h2, .ref h3, .ref h17, .ref h18, .int (iI (tk9)), .ref h19, .int (iI ((lt * 1103515245) + 12345)), .long (lI (tra))]))] := hD
  refine lv_aload_n hx hb dX10_draw_16 rfl (lv_at hl 0 rfl) ?_
  refine va_get (D := D) (ci := 10) (v := .int (iI ((lt * 1103515245) + 12345))) (C := RX10) (T := TX10) (N := 18) hx hb hts UX10 hown hK hP 0 rfl rfl 16 (by decide) L103 (fun _ h9 => h9) rfl dX10_draw_17 ?_
  refine lv_bipush (v := iI (16)) hx hb dX10_draw_20 (by decide) ?_
  refine lv_iushr hx hb dX10_draw_22 (ushr16 _) ?_
  refine lv_bipush (v := iI (7)) hx hb dX10_draw_23 (by decide) ?_
  refine j_irem hx hb (by omega) dX10_draw_25 ?_
  rw [hQ]; exact jm_iret () hx hb hr hlocks hS hP (jo_i (by rfl)) trivial dX10_draw_26
