abbrev rmX11_draws : Room := { frames := 0, cells := 0, slots := 0, locals := 0 }
set_option maxHeartbeats 4000000 in
set_option maxRecDepth 100000 in
theorem c_X11_draws (l : Launch) (D : va_G) (cI cZ : ClassId) (z : jZT) (h0 h40 h41 h42 h43 h44 h45 h46 h47 h48 h49 h50 h51 h52 : Nat) (th tra tn nx tk pl va fl tc km ta le rm9 rc9 fa tr ro lo : Int) (sa : Int → Int) (dr : Bool) : jMu (S := (Int → Int)) l yX11_draws wsX11_draws rmX11_draws [.ref h0] D cI cZ z [(h0, .inr (11, [.int (iI (th)), .long (lI (tra)), .ref h40, .int (iI (tn)), .int (iI (nx)), .int (iI (tk)), .int (iI (pl)), .int (iI (va)), .int (iI (fl)), .ref h41, .ref h42, .ref h43, .ref h44, .ref h45, .ref h46, .ref h47, .ref h48, .ref h49, .ref h50, .ref h51, .int (iI (tc)), .ref h52, .int (iI (km)), .int (iI (bI dr)), .int (iI (ta)), .int (iI (le)), .int (iI (rm9)), .int (iI (rc9)), .int (iI (fa)), .int (iI (tr)), .int (iI (ro)), .int (iI (lo))])), (h43, .inl (cI, 12, .inl (aI sa)))] (fun u => some (.int (iI (drU (lotN (sa 11)))))) (fun u => u = upZ sa 11 (lotN (sa 11))) (fun u => [(h0, .inr (11, [.int (iI (th)), .long (lI (tra)), .ref h40, .int (iI (tn)), .int (iI (nx)), .int (iI (tk)), .int (iI (pl)), .int (iI (va)), .int (iI (fl)), .ref h41, .ref h42, .ref h43, .ref h44, .ref h45, .ref h46, .ref h47, .ref h48, .ref h49, .ref h50, .ref h51, .int (iI (tc)), .ref h52, .int (iI (km)), .int (iI (bI dr)), .int (iI (ta)), .int (iI (le)), .int (iI (rm9)), .int (iI (rc9)), .int (iI (fa)), .int (iI (tr)), .int (iI (ro)), .int (iI (lo))])), (h43, .inl (cI, 12, .inl (aI u)))]) := by
  refine jMu_of (cc := cX11_draws) (n := 1) (ret := (some .int)) (by decide) rfl (Nat.le_of_ble_eq_true rfl) ?_
  intro p e s m below meth c A ls args Q hQ F hA hZ hP hK hD hS hl
  obtain ⟨hx, hb, hr, hml, hown, hts, hlocks⟩ := F
  have hown : s.vm.findClass RX11 = some m.cls := hown
  have hl : lv_has ls 1 [(0, .ref h0)] := hl
  have L19 := hts (.fieldLink RX11 19 "TinMouseModel" "s" "[I") (by decide +kernel)
  have C144 := hts (.constant RX11 144 (1103515245)) (by decide +kernel)
  have C145 := hts (.constant RX11 145 (65535)) (by decide +kernel)
  have UX11 : ∀ w ∈ wsX110, w ∈ wsX11_draws := fun w h => List.mem_cons_of_mem _ (List.mem_append_right _ h)
  refine lv_aload_n hx hb dX11_draws_0 rfl (lv_at hl 0 rfl) ?_
  refine va_get (D := D) (ci := 11) (v := .ref h43) (C := RX11) (T := TX11) (N := 32) hx hb hts UX11 hown hK hP 0 rfl rfl 11 (by decide) L19 (fun _ h9 => h9) rfl dX11_draws_1 ?_
  refine lv_bipush (v := iI (11)) hx hb dX11_draws_4 (by decide) ?_
  refine lv_aload_n hx hb dX11_draws_6 rfl (lv_at hl 0 rfl) ?_
  refine va_get (D := D) (ci := 11) (v := .ref h43) (C := RX11) (T := TX11) (N := 32) hx hb hts UX11 hown hK hP 0 rfl rfl 11 (by decide) L19 (fun _ h9 => h9) rfl dX11_draws_7 ?_
  refine lv_bipush (v := iI (11)) hx hb dX11_draws_10 (by decide) ?_
  refine j_iald hx hb hK hP 1 0 rfl rfl (by omega) dX11_draws_12 ?_
  refine lv_ldc (v := iI (1103515245)) hx hb hown C144 dX11_draws_13 ?_
  refine j_imul hx hb dX11_draws_15 ?_
  refine lv_sipush (v := iI (12345)) hx hb dX11_draws_16 (by decide) ?_
  refine j_iadd hx hb dX11_draws_19 ?_
  refine j_iast hx hb hK hP hD hS 1 0 rfl rfl (by omega) dX11_draws_20 (fun H locs hP hD hS => ?_)
  have hP : va_P D vwCl [(h0, .inr (11, [.int (iI (th)), .long (lI (tra)), .ref h40, .int (iI (tn)), .int (iI (nx)), .int (iI (tk)), .int (iI (pl)), .int (iI (va)), .int (iI (fl)), .ref h41, .ref h42, .ref h43, .ref h44, .ref h45, .ref h46, .ref h47, .ref h48, .ref h49, .ref h50, .ref h51, .int (iI (tc)), .ref h52, .int (iI (km)), .int (iI (bI dr)), .int (iI (ta)), .int (iI (le)), .int (iI (rm9)), .int (iI (rc9)), .int (iI (fa)), .int (iI (tr)), .int (iI (ro)), .int (iI (lo))])), (h43, .inl (cI, 12, .inl (aI (upZ sa 11 (((sa 11) * 1103515245) + 12345)))))] H := hP
  have hD : va_D A [(h0, .inr (11, [.int (iI (th)), .long (lI (tra)), .ref h40, .int (iI (tn)), .int (iI (nx)), .int (iI (tk)), .int (iI (pl)), .int (iI (va)), .int (iI (fl)), .ref h41, .ref h42, .ref h43, .ref h44, .ref h45, .ref h46, .ref h47, .ref h48, .ref h49, .ref h50, .ref h51, .int (iI (tc)), .ref h52, .int (iI (km)), .int (iI (bI dr)), .int (iI (ta)), .int (iI (le)), .int (iI (rm9)), .int (iI (rc9)), .int (iI (fa)), .int (iI (tr)), .int (iI (ro)), .int (iI (lo))])), (h43, .inl (cI, 12, .inl (aI (upZ sa 11 (((sa 11) * 1103515245) + 12345)))))] := hD
  refine lv_aload_n hx hb dX11_draws_21 rfl (lv_at hl 0 rfl) ?_
  refine va_get (D := D) (ci := 11) (v := .ref h43) (C := RX11) (T := TX11) (N := 32) hx hb hts UX11 hown hK hP 0 rfl rfl 11 (by decide) L19 (fun _ h9 => h9) rfl dX11_draws_22 ?_
  refine lv_bipush (v := iI (11)) hx hb dX11_draws_25 (by decide) ?_
  refine j_iald hx hb hK hP 1 0 rfl rfl (by omega) dX11_draws_27 ?_
  rw [upZ_s]
  refine lv_bipush (v := iI (16)) hx hb dX11_draws_28 (by decide) ?_
  refine lv_ishr hx hb dX11_draws_30 ?_
  refine lv_ldc (v := iI (65535)) hx hb hown C145 dX11_draws_31 ?_
  refine lv_iand hx hb dX11_draws_33 ?_
  rw [ishr16]
  refine lv_bipush (v := iI (7)) hx hb dX11_draws_34 (by decide) ?_
  refine j_irem hx hb (by omega) dX11_draws_36 ?_
  rw [hQ]; exact jm_iret (upZ sa 11 (((sa 11) * 1103515245) + 12345)) hx hb hr hlocks hS hP (jo_i (by rfl)) (by (try dsimp only); rfl) dX11_draws_37
theorem hsX11_draws : yX11_draws.cls ≠ "java/lang/invoke/MethodHandle" ∧ yX11_draws.cls ≠ "java/lang/invoke/VarHandle" ∧ (parseMethodDescriptor yX11_draws.desc).map (fun d => d.parameters.length) = some 0 := by decide +kernel
theorem hvX11_draws : yX11_draws.cls = RX11 ∧ yX11_draws.cls ≠ "java/lang/invoke/MethodHandle" ∧ yX11_draws.cls ≠ "java/lang/invoke/VarHandle" ∧ (parseMethodDescriptor yX11_draws.desc).map (fun d => d.parameters.length) = some 0 := ⟨rfl, hsX11_draws⟩
abbrev rmX11_stepsB : Room := { frames := 4, cells := 0, slots := 0, locals := 89 }
set_option maxHeartbeats 4000000 in
set_option maxRecDepth 100000 in
theorem c_X11_stepsB (l : Launch) (D : va_G) (cI cZ : ClassId) (z : jZT) (h0 h60 h40 h41 h42 h43 h44 h45 h46 h47 h48 h49 h50 h51 h52 : Nat) (th tra tn nx tk pl va fl tc km ta le rm9 rc9 fa tr ro lo : Int) (td gd sa wk : Int → Int) (dr : Bool) (hW : 3 ≤ td 0 ∧ td 0 ≤ 16) (hH : 3 ≤ td 1 ∧ td 1 ≤ 16) (hg : ∀ j : Int, 0 ≤ j → j < 256 → 0 ≤ gd j ∧ gd j ≤ 2) (hno : 1 ≤ td 2 ∧ td 2 ≤ 3) (htu : 1 ≤ td 3 ∧ td 3 ≤ 7) (hbe : 0 ≤ td 4 ∧ td 4 ≤ 9) (hon : (0 ≤ wk 0 ∧ wk 0 < td 0) ∧ (0 ≤ wk 1 ∧ wk 1 < td 1) ∧ (0 ≤ wk 2 ∧ wk 2 < 8) ∧ (0 ≤ wk 3 ∧ wk 3 < 9)) (hdr : dr = true) : jMu (S := (Int → Int) × (Int → Int) × Int) l yX11_steps wsX11_steps rmX11_stepsB [.ref h0, .ref h60] D cI cZ z [(h0, .inr (11, [.int (iI (th)), .long (lI (tra)), .ref h40, .int (iI (tn)), .int (iI (nx)), .int (iI (tk)), .int (iI (pl)), .int (iI (va)), .int (iI (fl)), .ref h41, .ref h42, .ref h43, .ref h44, .ref h45, .ref h46, .ref h47, .ref h48, .ref h49, .ref h50, .ref h51, .int (iI (tc)), .ref h52, .int (iI (km)), .int (iI (bI dr)), .int (iI (ta)), .int (iI (le)), .int (iI (rm9)), .int (iI (rc9)), .int (iI (fa)), .int (iI (tr)), .int (iI (ro)), .int (iI (lo))])), (h41, .inl (cI, 18, .inl (aI td))), (h42, .inl (cI, 512, .inl (aI gd))), (h43, .inl (cI, 12, .inl (aI sa))), (h60, .inl (cI, 4, .inl (aI wk)))] (fun u => some (.int (iI (u.2.2)))) (fun u => (u.2.2, u.1 0, u.1 1, u.1 2, u.1 3) = msF (td 0) (td 1) gd (td 2) (if mA (td 0) (td 1) gd (wk 0 + asX (wk 2)) (wk 1 + asX (wk 2 + 6)) = 2 ∨ mW (td 0) (td 1) gd (wk 0 + td 2 * asX (wk 2)) (wk 1 + td 2 * asX (wk 2 + 6)) = false then 1 + drU (lotN (sa 11)) else td 3) (td 4) (wk 0) (wk 1) (wk 2) (wk 3) ∧ ∀ j : Int, u.2.1 j = if (mA (td 0) (td 1) gd (wk 0 + asX (wk 2)) (wk 1 + asX (wk 2 + 6)) = 2 ∨ mW (td 0) (td 1) gd (wk 0 + td 2 * asX (wk 2)) (wk 1 + td 2 * asX (wk 2 + 6)) = false) ∧ j = 11 then lotN (sa 11) else sa j) (fun u => [(h0, .inr (11, [.int (iI (th)), .long (lI (tra)), .ref h40, .int (iI (tn)), .int (iI (nx)), .int (iI (tk)), .int (iI (pl)), .int (iI (va)), .int (iI (fl)), .ref h41, .ref h42, .ref h43, .ref h44, .ref h45, .ref h46, .ref h47, .ref h48, .ref h49, .ref h50, .ref h51, .int (iI (tc)), .ref h52, .int (iI (km)), .int (iI (bI dr)), .int (iI (ta)), .int (iI (le)), .int (iI (rm9)), .int (iI (rc9)), .int (iI (fa)), .int (iI (tr)), .int (iI (ro)), .int (iI (lo))])), (h41, .inl (cI, 18, .inl (aI td))), (h42, .inl (cI, 512, .inl (aI gd))), (h43, .inl (cI, 12, .inl (aI u.2.1))), (h60, .inl (cI, 4, .inl (aI u.1)))]) := by
  refine jMu_of (cc := cX11_steps) (n := 3) (ret := (some .int)) (by decide) rfl (Nat.le_of_ble_eq_true rfl) ?_
  intro p e s m below meth c A ls args Q hQ F hA hZ hP hK hD hS hl
  obtain ⟨hx, hb, hr, hml, hown, hts, hlocks⟩ := F
  have hown : s.vm.findClass RX11 = some m.cls := hown
  have hl : lv_has ls 3 [(0, .ref h0), (1, .ref h60)] := hl
  have L154 := hts (.fieldLink RX11 154 "TinMouseModel" "isDrawn" "Z") (by decide +kernel)
  have L13 := hts (.fieldLink RX11 13 "TinMouseModel" "told" "[I") (by decide +kernel)
  have UX11 : ∀ w ∈ wsX110, w ∈ wsX11_steps := fun w h => List.mem_cons_of_mem _ (List.mem_append_right _ h)
  have hm1 := asX_rng (wk 2)
  have hm2 := asX_rng (wk 2 + 6)
  have hdu := drU_rng (lotN (sa 11))
  refine lv_aload_n hx hb dX11_steps_0 rfl (lv_at hl 0 rfl) ?_
  refine lv_aload_n hx hb dX11_steps_1 rfl (lv_at hl 1 rfl) ?_
  refine j_rd (va_runV (As := [.ref h60]) (rest := []) ⟨hx, hb, hml, hown, hts⟩ (c_X11_meetsBook l D cI cZ z h0 h60 h40 h41 h42 h43 h44 h45 h46 h47 h48 h49 h50 h51 h52 th tra tn nx tk pl va fl tc km ta le rm9 rc9 fa tr ro lo td gd wk dr (by first | assumption | omega) (by first | assumption | omega) (by first | assumption | omega) (by omega) s.heap.size) (cwV 1 hts gX11_steps_X11_meetsBook rfl rfl rfl hvX11_meetsBook ⟨Nat.le_of_ble_eq_true rfl, Nat.le_of_ble_eq_true rfl⟩) (j_preV hP hD hK hS hZ hA [0, 1, 2, 4] rfl rfl 0 rfl rfl) rfl rfl hl.1 rfl (lv_room (Nat.le_of_ble_eq_true rfl)) dX11_steps_2 ⟨Nat.zero_le _, Nat.zero_le _⟩) ?_
  refine j_ifne_d (tgt := 19) hx hb dX11_steps_5 (by decide) (fun c_5 => ?_) (fun c_5 => ?_)
  · refine lv_aload_n hx hb dX11_steps_19 rfl (lv_at hl 0 rfl) ?_
    refine va_get (D := D) (ci := 11) (v := .int (iI (bI dr))) (C := RX11) (T := TX11) (N := 32) hx hb hts UX11 hown hK hP 0 rfl rfl 23 (by decide) L154 (fun _ h9 => h9) rfl dX11_steps_20 ?_
    refine j_ifeq_b (tgt := 35) hx hb dX11_steps_23 (by decide) (fun c_23 => ?_) (fun c_23 => ?_)
    · exact False.elim (by simp_all)
    · refine lv_iconst (v := iI (1)) hx hb dX11_steps_26 rfl ?_
      refine lv_aload_n hx hb dX11_steps_27 rfl (lv_at hl 0 rfl) ?_
      refine j_mui (va_runV (As := []) (rest := [.int (iI (1))]) ⟨hx, hb, hml, hown, hts⟩ (c_X11_draws l D cI cZ z h0 h40 h41 h42 h43 h44 h45 h46 h47 h48 h49 h50 h51 h52 th tra tn nx tk pl va fl tc km ta le rm9 rc9 fa tr ro lo sa dr  s.heap.size) (cwV 0 hts gX11_steps_X11_draws rfl rfl rfl hvX11_draws ⟨Nat.le_of_ble_eq_true rfl, Nat.le_of_ble_eq_true rfl⟩) (j_preV hP hD hK hS hZ hA [0, 3] rfl rfl 0 rfl rfl) rfl rfl hl.1 rfl (lv_room (Nat.le_of_ble_eq_true rfl)) dX11_steps_28 ⟨Nat.zero_le _, Nat.zero_le _⟩) hP hD hS hA [0, 3] rfl (fun _ => rfl) (fun sad H locs hw_28 hP hD hS => ?_)
      have hP : va_P D vwCl [(h0, .inr (11, [.int (iI (th)), .long (lI (tra)), .ref h40, .int (iI (tn)), .int (iI (nx)), .int (iI (tk)), .int (iI (pl)), .int (iI (va)), .int (iI (fl)), .ref h41, .ref h42, .ref h43, .ref h44, .ref h45, .ref h46, .ref h47, .ref h48, .ref h49, .ref h50, .ref h51, .int (iI (tc)), .ref h52, .int (iI (km)), .int (iI (bI dr)), .int (iI (ta)), .int (iI (le)), .int (iI (rm9)), .int (iI (rc9)), .int (iI (fa)), .int (iI (tr)), .int (iI (ro)), .int (iI (lo))])), (h41, .inl (cI, 18, .inl (aI td))), (h42, .inl (cI, 512, .inl (aI gd))), (h43, .inl (cI, 12, .inl (aI sad))), (h60, .inl (cI, 4, .inl (aI wk)))] H := hP
      have hD : va_D A [(h0, .inr (11, [.int (iI (th)), .long (lI (tra)), .ref h40, .int (iI (tn)), .int (iI (nx)), .int (iI (tk)), .int (iI (pl)), .int (iI (va)), .int (iI (fl)), .ref h41, .ref h42, .ref h43, .ref h44, .ref h45, .ref h46, .ref h47, .ref h48, .ref h49, .ref h50, .ref h51, .int (iI (tc)), .ref h52, .int (iI (km)), .int (iI (bI dr)), .int (iI (ta)), .int (iI (le)), .int (iI (rm9)), .int (iI (rc9)), .int (iI (fa)), .int (iI (tr)), .int (iI (ro)), .int (iI (lo))])), (h41, .inl (cI, 18, .inl (aI td))), (h42, .inl (cI, 512, .inl (aI gd))), (h43, .inl (cI, 12, .inl (aI sad))), (h60, .inl (cI, 4, .inl (aI wk)))] := hD
      refine j_iadd hx hb dX11_steps_31 ?_
      refine lv_goto (tgt := 41) hx hb dX11_steps_32 (by decide) ?_
      refine lv_istore_n (lv' := [(2, .int (iI (1 + (drU (lotN (sa 11)))))), (0, .ref h0), (1, .ref h60)]) hx hb dX11_steps_41 rfl hl (by decide) rfl (fun ls hl => ?_)
      refine lv_aload_n hx hb dX11_steps_42 rfl (lv_at hl 2 rfl) ?_
      refine lv_iconst (v := iI (2)) hx hb dX11_steps_43 rfl ?_
      refine lv_aload_n hx hb dX11_steps_44 rfl (lv_at hl 2 rfl) ?_
      refine lv_iconst (v := iI (2)) hx hb dX11_steps_45 rfl ?_
      refine j_iald hx hb hK hP 4 0 rfl rfl (by omega) dX11_steps_46 ?_
      refine lv_iload_n hx hb dX11_steps_47 rfl (lv_at hl 0 rfl) ?_
      refine j_iadd hx hb dX11_steps_48 ?_
      refine lv_bipush (v := iI (8)) hx hb dX11_steps_49 (by decide) ?_
      refine j_irem hx hb (by omega) dX11_steps_51 ?_
      refine j_iast hx hb hK hP hD hS 4 0 rfl rfl (by omega) dX11_steps_52 (fun H locs hP hD hS => ?_)
      have hP : va_P D vwCl [(h0, .inr (11, [.int (iI (th)), .long (lI (tra)), .ref h40, .int (iI (tn)), .int (iI (nx)), .int (iI (tk)), .int (iI (pl)), .int (iI (va)), .int (iI (fl)), .ref h41, .ref h42, .ref h43, .ref h44, .ref h45, .ref h46, .ref h47, .ref h48, .ref h49, .ref h50, .ref h51, .int (iI (tc)), .ref h52, .int (iI (km)), .int (iI (bI dr)), .int (iI (ta)), .int (iI (le)), .int (iI (rm9)), .int (iI (rc9)), .int (iI (fa)), .int (iI (tr)), .int (iI (ro)), .int (iI (lo))])), (h41, .inl (cI, 18, .inl (aI td))), (h42, .inl (cI, 512, .inl (aI gd))), (h43, .inl (cI, 12, .inl (aI sad))), (h60, .inl (cI, 4, .inl (aI (upZ wk 2 (((wk 2) + (1 + (drU (lotN (sa 11))))) % 8)))))] H := hP
      have hD : va_D A [(h0, .inr (11, [.int (iI (th)), .long (lI (tra)), .ref h40, .int (iI (tn)), .int (iI (nx)), .int (iI (tk)), .int (iI (pl)), .int (iI (va)), .int (iI (fl)), .ref h41, .ref h42, .ref h43, .ref h44, .ref h45, .ref h46, .ref h47, .ref h48, .ref h49, .ref h50, .ref h51, .int (iI (tc)), .ref h52, .int (iI (km)), .int (iI (bI dr)), .int (iI (ta)), .int (iI (le)), .int (iI (rm9)), .int (iI (rc9)), .int (iI (fa)), .int (iI (tr)), .int (iI (ro)), .int (iI (lo))])), (h41, .inl (cI, 18, .inl (aI td))), (h42, .inl (cI, 512, .inl (aI gd))), (h43, .inl (cI, 12, .inl (aI sad))), (h60, .inl (cI, 4, .inl (aI (upZ wk 2 (((wk 2) + (1 + (drU (lotN (sa 11))))) % 8)))))] := hD
      refine lv_iconst (v := iI (0)) hx hb dX11_steps_53 rfl ?_
      rw [hQ]; exact jm_iret (upZ wk 2 (((wk 2) + (1 + (drU (lotN (sa 11))))) % 8), sad, 0) hx hb hr hlocks hS hP rfl (by (try dsimp only); have hT : mA (td 0) (td 1) gd (wk 0 + asX (wk 2)) (wk 1 + asX (wk 2 + 6)) = 2 ∨ mW (td 0) (td 1) gd (wk 0 + td 2 * asX (wk 2)) (wk 1 + td 2 * asX (wk 2 + 6)) = false := (by first | exact Or.inl (by first | exact c_5 | exact of_decide_eq_true c_5 | exact of_decide_eq_false c_5) | exact Or.inr (by first | exact c_16 | simpa using c_16)); refine ⟨?_, fun j => ?_⟩; (rw [if_pos hT, ms_turn hT]; simp [upZ]); (rw [hw_28]; by_cases hj : j = 11; (rw [hj, upZ_s, if_pos ⟨hT, rfl⟩]); (rw [upZ_n hj, if_neg (fun w => hj w.2)]))) dX11_steps_54
  · refine lv_aload_n hx hb dX11_steps_8 rfl (lv_at hl 0 rfl) ?_
    refine lv_aload_n hx hb dX11_steps_9 rfl (lv_at hl 1 rfl) ?_
    refine lv_aload_n hx hb dX11_steps_10 rfl (lv_at hl 1 rfl) ?_
    refine lv_iconst (v := iI (2)) hx hb dX11_steps_11 rfl ?_
    refine j_iald hx hb hK hP 4 0 rfl rfl (by omega) dX11_steps_12 ?_
    refine j_rd (va_runV (As := [.ref h60, .int (iI (wk 2))]) (rest := []) ⟨hx, hb, hml, hown, hts⟩ (c_X11_seesEdge l D cI cZ z h0 h60 h40 h41 h42 h43 h44 h45 h46 h47 h48 h49 h50 h51 h52 (wk 2) th tra tn nx tk pl va fl tc km ta le rm9 rc9 fa tr ro lo td gd wk dr (by first | assumption | omega) (by first | assumption | omega) (by first | assumption | omega) (by first | assumption | omega) (by omega) (by omega) s.heap.size) (cwV 2 hts gX11_steps_X11_seesEdge rfl rfl rfl hvX11_seesEdge ⟨Nat.le_of_ble_eq_true rfl, Nat.le_of_ble_eq_true rfl⟩) (j_preV hP hD hK hS hZ hA [0, 1, 2, 4] rfl rfl 0 rfl rfl) rfl rfl hl.1 rfl (lv_room (Nat.le_of_ble_eq_true rfl)) dX11_steps_13 ⟨Nat.zero_le _, Nat.zero_le _⟩) ?_
    refine j_ifeq_b (tgt := 55) hx hb dX11_steps_16 (by decide) (fun c_16 => ?_) (fun c_16 => ?_)
    · refine lv_aload_n hx hb dX11_steps_55 rfl (lv_at hl 1 rfl) ?_
      refine lv_iconst (v := iI (2)) hx hb dX11_steps_56 rfl ?_
      refine j_iald hx hb hK hP 4 0 rfl rfl (by omega) dX11_steps_57 ?_
      refine lv_istore_n (lv' := [(2, .int (iI (wk 2))), (0, .ref h0), (1, .ref h60)]) hx hb dX11_steps_58 rfl hl (by decide) rfl (fun ls hl => ?_)
      refine lv_aload_n hx hb dX11_steps_59 rfl (lv_at hl 2 rfl) ?_
      refine lv_iconst (v := iI (0)) hx hb dX11_steps_60 rfl ?_
      refine lv_dup2_11 hx hb dX11_steps_61 rfl rfl ?_
      refine j_iald hx hb hK hP 4 0 rfl rfl (by omega) dX11_steps_62 ?_
      refine lv_iload_n hx hb dX11_steps_63 rfl (lv_at hl 0 rfl) ?_
      refine j_rd (va_runS (As := [.int (iI (wk 2))]) (rest := [.int (iI (wk 0)), .int (iI (0)), .ref h60]) ⟨hx, hb, hml, hown, hts⟩ (c_X11_aside l D cI cZ z (wk 2)  s.heap.size) (va_cwS 1 hts gX11_steps_X11_aside rfl rfl rfl hsX11_aside ⟨Nat.le_of_ble_eq_true rfl, Nat.le_of_ble_eq_true rfl⟩) (j_preS hP hD hK hS hZ hA [] rfl rfl) rfl rfl hl.1 rfl (lv_room (Nat.le_of_ble_eq_true rfl)) dX11_steps_64 ⟨Nat.zero_le _, Nat.zero_le _⟩) ?_
      refine j_iadd hx hb dX11_steps_67 ?_
      refine j_iast hx hb hK hP hD hS 4 0 rfl rfl (by omega) dX11_steps_68 (fun H locs hP hD hS => ?_)
      have hP : va_P D vwCl [(h0, .inr (11, [.int (iI (th)), .long (lI (tra)), .ref h40, .int (iI (tn)), .int (iI (nx)), .int (iI (tk)), .int (iI (pl)), .int (iI (va)), .int (iI (fl)), .ref h41, .ref h42, .ref h43, .ref h44, .ref h45, .ref h46, .ref h47, .ref h48, .ref h49, .ref h50, .ref h51, .int (iI (tc)), .ref h52, .int (iI (km)), .int (iI (bI dr)), .int (iI (ta)), .int (iI (le)), .int (iI (rm9)), .int (iI (rc9)), .int (iI (fa)), .int (iI (tr)), .int (iI (ro)), .int (iI (lo))])), (h41, .inl (cI, 18, .inl (aI td))), (h42, .inl (cI, 512, .inl (aI gd))), (h43, .inl (cI, 12, .inl (aI sa))), (h60, .inl (cI, 4, .inl (aI (upZ wk 0 ((wk 0) + (asX (wk 2)))))))] H := hP
      have hD : va_D A [(h0, .inr (11, [.int (iI (th)), .long (lI (tra)), .ref h40, .int (iI (tn)), .int (iI (nx)), .int (iI (tk)), .int (iI (pl)), .int (iI (va)), .int (iI (fl)), .ref h41, .ref h42, .ref h43, .ref h44, .ref h45, .ref h46, .ref h47, .ref h48, .ref h49, .ref h50, .ref h51, .int (iI (tc)), .ref h52, .int (iI (km)), .int (iI (bI dr)), .int (iI (ta)), .int (iI (le)), .int (iI (rm9)), .int (iI (rc9)), .int (iI (fa)), .int (iI (tr)), .int (iI (ro)), .int (iI (lo))])), (h41, .inl (cI, 18, .inl (aI td))), (h42, .inl (cI, 512, .inl (aI gd))), (h43, .inl (cI, 12, .inl (aI sa))), (h60, .inl (cI, 4, .inl (aI (upZ wk 0 ((wk 0) + (asX (wk 2)))))))] := hD
      refine lv_aload_n hx hb dX11_steps_69 rfl (lv_at hl 2 rfl) ?_
      refine lv_iconst (v := iI (1)) hx hb dX11_steps_70 rfl ?_
      refine lv_dup2_11 hx hb dX11_steps_71 rfl rfl ?_
      refine j_iald hx hb hK hP 4 0 rfl rfl (by omega) dX11_steps_72 ?_
      refine j_top (fun y0 ey0 => ?_)
      rw [upZ_n (by decide)] at ey0
      refine lv_iload_n hx hb dX11_steps_73 rfl (lv_at hl 0 rfl) ?_
      refine j_rd (va_runS (As := [.int (iI (wk 2))]) (rest := [.int (iI (y0)), .int (iI (1)), .ref h60]) ⟨hx, hb, hml, hown, hts⟩ (c_X11_along l D cI cZ z (wk 2)  H.size) (va_cwS 1 hts gX11_steps_X11_along rfl rfl rfl hsX11_along ⟨Nat.le_of_ble_eq_true rfl, Nat.le_of_ble_eq_true rfl⟩) (j_preS hP hD hK hS hZ hA [] rfl rfl) rfl rfl hl.1 rfl (lv_room (Nat.le_of_ble_eq_true rfl)) dX11_steps_74 ⟨Nat.zero_le _, Nat.zero_le _⟩) ?_
      refine j_iadd hx hb dX11_steps_77 ?_
      refine j_iast hx hb hK hP hD hS 4 0 rfl rfl (by omega) dX11_steps_78 (fun H locs hP hD hS => ?_)
      have hP : va_P D vwCl [(h0, .inr (11, [.int (iI (th)), .long (lI (tra)), .ref h40, .int (iI (tn)), .int (iI (nx)), .int (iI (tk)), .int (iI (pl)), .int (iI (va)), .int (iI (fl)), .ref h41, .ref h42, .ref h43, .ref h44, .ref h45, .ref h46, .ref h47, .ref h48, .ref h49, .ref h50, .ref h51, .int (iI (tc)), .ref h52, .int (iI (km)), .int (iI (bI dr)), .int (iI (ta)), .int (iI (le)), .int (iI (rm9)), .int (iI (rc9)), .int (iI (fa)), .int (iI (tr)), .int (iI (ro)), .int (iI (lo))])), (h41, .inl (cI, 18, .inl (aI td))), (h42, .inl (cI, 512, .inl (aI gd))), (h43, .inl (cI, 12, .inl (aI sa))), (h60, .inl (cI, 4, .inl (aI (upZ (upZ wk 0 ((wk 0) + (asX (wk 2)))) 1 (y0 + (asX ((wk 2) + 6)))))))] H := hP
      have hD : va_D A [(h0, .inr (11, [.int (iI (th)), .long (lI (tra)), .ref h40, .int (iI (tn)), .int (iI (nx)), .int (iI (tk)), .int (iI (pl)), .int (iI (va)), .int (iI (fl)), .ref h41, .ref h42, .ref h43, .ref h44, .ref h45, .ref h46, .ref h47, .ref h48, .ref h49, .ref h50, .ref h51, .int (iI (tc)), .ref h52, .int (iI (km)), .int (iI (bI dr)), .int (iI (ta)), .int (iI (le)), .int (iI (rm9)), .int (iI (rc9)), .int (iI (fa)), .int (iI (tr)), .int (iI (ro)), .int (iI (lo))])), (h41, .inl (cI, 18, .inl (aI td))), (h42, .inl (cI, 512, .inl (aI gd))), (h43, .inl (cI, 12, .inl (aI sa))), (h60, .inl (cI, 4, .inl (aI (upZ (upZ wk 0 ((wk 0) + (asX (wk 2)))) 1 (y0 + (asX ((wk 2) + 6)))))))] := hD
      refine lv_aload_n hx hb dX11_steps_79 rfl (lv_at hl 1 rfl) ?_
      refine lv_aload_n hx hb dX11_steps_80 rfl (lv_at hl 2 rfl) ?_
      refine lv_iconst (v := iI (0)) hx hb dX11_steps_81 rfl ?_
      refine j_iald hx hb hK hP 4 0 rfl rfl (by omega) dX11_steps_82 ?_
      refine j_top (fun x1 ex1 => ?_)
      rw [upZ_n (by decide), upZ_s] at ex1
      refine lv_aload_n hx hb dX11_steps_83 rfl (lv_at hl 2 rfl) ?_
      refine lv_iconst (v := iI (1)) hx hb dX11_steps_84 rfl ?_
      refine j_iald hx hb hK hP 4 0 rfl rfl (by omega) dX11_steps_85 ?_
      refine j_top (fun y1 ey1 => ?_)
      rw [upZ_s] at ey1
      refine j_rd (va_runV (As := [.int (iI (x1)), .int (iI (y1))]) (rest := []) ⟨hx, hb, hml, hown, hts⟩ (c_X11_isWood l D cI cZ z h0 h40 h41 h42 h43 h44 h45 h46 h47 h48 h49 h50 h51 h52 x1 y1 th tra tn nx tk pl va fl tc km ta le rm9 rc9 fa tr ro lo td gd dr (by first | assumption | omega) (by first | assumption | omega) (by first | assumption | omega) (by first | assumption | omega) (by first | assumption | omega) H.size) (cwV 2 hts gX11_steps_X11_isWood rfl rfl rfl hvX11_isWood ⟨Nat.le_of_ble_eq_true rfl, Nat.le_of_ble_eq_true rfl⟩) (j_preV hP hD hK hS hZ hA [0, 1, 2] rfl rfl 0 rfl rfl) rfl rfl hl.1 rfl (lv_room (Nat.le_of_ble_eq_true rfl)) dX11_steps_86 ⟨Nat.zero_le _, Nat.zero_le _⟩) ?_
      refine j_ifne_b (tgt := 94) hx hb dX11_steps_89 (by decide) (fun c_89 => ?_) (fun c_89 => ?_)
      · refine lv_aload_n hx hb dX11_steps_94 rfl (lv_at hl 1 rfl) ?_
        refine va_get (D := D) (ci := 11) (v := .ref h41) (C := RX11) (T := TX11) (N := 32) hx hb hts UX11 hown hK hP 0 rfl rfl 9 (by decide) L13 (fun _ h9 => h9) rfl dX11_steps_95 ?_
        refine lv_iconst (v := iI (4)) hx hb dX11_steps_98 rfl ?_
        refine j_iald hx hb hK hP 1 0 rfl rfl (by omega) dX11_steps_99 ?_
        refine j_if_le (tgt := 137) hx hb (by omega) dX11_steps_100 (by decide) (fun c_100 => ?_) (fun c_100 => ?_)
        · refine lv_iconst (v := iI (1)) hx hb dX11_steps_137 rfl ?_
          rw [hQ]; exact jm_iret (upZ (upZ wk 0 ((wk 0) + (asX (wk 2)))) 1 (y0 + (asX ((wk 2) + 6))), sa, 1) hx hb hr hlocks hS hP rfl (by (try dsimp only); have hT : ¬ (mA (td 0) (td 1) gd (wk 0 + asX (wk 2)) (wk 1 + asX (wk 2 + 6)) = 2 ∨ mW (td 0) (td 1) gd (wk 0 + td 2 * asX (wk 2)) (wk 1 + td 2 * asX (wk 2 + 6)) = false) := fun w => w.elim (by first | exact c_5 | exact of_decide_eq_true c_5 | exact of_decide_eq_false c_5) (fun v => absurd (v.symm.trans (by first | exact c_16 | simpa using c_16)) (by decide)); refine ⟨?_, fun j => (by rw [if_neg (fun w => hT w.1)])⟩; rw [if_neg hT, ms_move (by first | exact c_5 | exact of_decide_eq_true c_5 | exact of_decide_eq_false c_5) (by first | exact c_16 | simpa using c_16) (by rw [← ey0]; rw [← ex1, ← ey1]; exact (by first | exact c_89 | exact c_89))]; refine Prod.ext rfl (Prod.ext ?_ (Prod.ext ?_ (Prod.ext ?_ ?_))) <;> (simp only [upZ, Int.reduceEq, if_true, if_false]; first | done | omega)) dX11_steps_138
        · refine lv_aload_n hx hb dX11_steps_103 rfl (lv_at hl 2 rfl) ?_
          refine lv_iconst (v := iI (3)) hx hb dX11_steps_104 rfl ?_
          refine lv_dup2_11 hx hb dX11_steps_105 rfl rfl ?_
          refine j_iald hx hb hK hP 4 0 rfl rfl (by omega) dX11_steps_106 ?_
          refine j_top (fun b0 eb0 => ?_)
          rw [upZ_n (by decide), upZ_n (by decide)] at eb0
          refine lv_iconst (v := iI (1)) hx hb dX11_steps_107 rfl ?_
          refine j_iadd hx hb dX11_steps_108 ?_
          refine j_iast hx hb hK hP hD hS 4 0 rfl rfl (by omega) dX11_steps_109 (fun H locs hP hD hS => ?_)
          have hP : va_P D vwCl [(h0, .inr (11, [.int (iI (th)), .long (lI (tra)), .ref h40, .int (iI (tn)), .int (iI (nx)), .int (iI (tk)), .int (iI (pl)), .int (iI (va)), .int (iI (fl)), .ref h41, .ref h42, .ref h43, .ref h44, .ref h45, .ref h46, .ref h47, .ref h48, .ref h49, .ref h50, .ref h51, .int (iI (tc)), .ref h52, .int (iI (km)), .int (iI (bI dr)), .int (iI (ta)), .int (iI (le)), .int (iI (rm9)), .int (iI (rc9)), .int (iI (fa)), .int (iI (tr)), .int (iI (ro)), .int (iI (lo))])), (h41, .inl (cI, 18, .inl (aI td))), (h42, .inl (cI, 512, .inl (aI gd))), (h43, .inl (cI, 12, .inl (aI sa))), (h60, .inl (cI, 4, .inl (aI (upZ (upZ (upZ wk 0 ((wk 0) + (asX (wk 2)))) 1 (y0 + (asX ((wk 2) + 6)))) 3 (b0 + 1)))))] H := hP
          have hD : va_D A [(h0, .inr (11, [.int (iI (th)), .long (lI (tra)), .ref h40, .int (iI (tn)), .int (iI (nx)), .int (iI (tk)), .int (iI (pl)), .int (iI (va)), .int (iI (fl)), .ref h41, .ref h42, .ref h43, .ref h44, .ref h45, .ref h46, .ref h47, .ref h48, .ref h49, .ref h50, .ref h51, .int (iI (tc)), .ref h52, .int (iI (km)), .int (iI (bI dr)), .int (iI (ta)), .int (iI (le)), .int (iI (rm9)), .int (iI (rc9)), .int (iI (fa)), .int (iI (tr)), .int (iI (ro)), .int (iI (lo))])), (h41, .inl (cI, 18, .inl (aI td))), (h42, .inl (cI, 512, .inl (aI gd))), (h43, .inl (cI, 12, .inl (aI sa))), (h60, .inl (cI, 4, .inl (aI (upZ (upZ (upZ wk 0 ((wk 0) + (asX (wk 2)))) 1 (y0 + (asX ((wk 2) + 6)))) 3 (b0 + 1)))))] := hD
          refine lv_aload_n hx hb dX11_steps_110 rfl (lv_at hl 2 rfl) ?_
          refine lv_iconst (v := iI (3)) hx hb dX11_steps_111 rfl ?_
          refine j_iald hx hb hK hP 4 0 rfl rfl (by omega) dX11_steps_112 ?_
          refine j_top (fun b1 eb1 => ?_)
          rw [upZ_s] at eb1
          refine lv_aload_n hx hb dX11_steps_113 rfl (lv_at hl 1 rfl) ?_
          refine va_get (D := D) (ci := 11) (v := .ref h41) (C := RX11) (T := TX11) (N := 32) hx hb hts UX11 hown hK hP 0 rfl rfl 9 (by decide) L13 (fun _ h9 => h9) rfl dX11_steps_114 ?_
          refine lv_iconst (v := iI (4)) hx hb dX11_steps_117 rfl ?_
          refine j_iald hx hb hK hP 1 0 rfl rfl (by omega) dX11_steps_118 ?_
          refine j_icmp_lt (tgt := 137) hx hb (by omega) dX11_steps_119 (by decide) (fun c_119 => ?_) (fun c_119 => ?_)
          · refine lv_iconst (v := iI (1)) hx hb dX11_steps_137 rfl ?_
            rw [hQ]; exact jm_iret (upZ (upZ (upZ wk 0 ((wk 0) + (asX (wk 2)))) 1 (y0 + (asX ((wk 2) + 6)))) 3 (b0 + 1), sa, 1) hx hb hr hlocks hS hP rfl (by (try dsimp only); have hT : ¬ (mA (td 0) (td 1) gd (wk 0 + asX (wk 2)) (wk 1 + asX (wk 2 + 6)) = 2 ∨ mW (td 0) (td 1) gd (wk 0 + td 2 * asX (wk 2)) (wk 1 + td 2 * asX (wk 2 + 6)) = false) := fun w => w.elim (by first | exact c_5 | exact of_decide_eq_true c_5 | exact of_decide_eq_false c_5) (fun v => absurd (v.symm.trans (by first | exact c_16 | simpa using c_16)) (by decide)); refine ⟨?_, fun j => (by rw [if_neg (fun w => hT w.1)])⟩; rw [if_neg hT, ms_move (by first | exact c_5 | exact of_decide_eq_true c_5 | exact of_decide_eq_false c_5) (by first | exact c_16 | simpa using c_16) (by rw [← ey0]; rw [← ex1, ← ey1]; exact (by first | exact c_89 | exact c_89))]; refine Prod.ext rfl (Prod.ext ?_ (Prod.ext ?_ (Prod.ext ?_ ?_))) <;> (simp only [upZ, Int.reduceEq, if_true, if_false]; first | done | omega)) dX11_steps_138
          · refine lv_aload_n hx hb dX11_steps_122 rfl (lv_at hl 2 rfl) ?_
            refine lv_iconst (v := iI (2)) hx hb dX11_steps_123 rfl ?_
            refine lv_aload_n hx hb dX11_steps_124 rfl (lv_at hl 2 rfl) ?_
            refine lv_iconst (v := iI (2)) hx hb dX11_steps_125 rfl ?_
            refine j_iald hx hb hK hP 4 0 rfl rfl (by omega) dX11_steps_126 ?_
            refine j_top (fun d0 ed0 => ?_)
            rw [upZ_n (by decide), upZ_n (by decide), upZ_n (by decide)] at ed0
            refine lv_iconst (v := iI (1)) hx hb dX11_steps_127 rfl ?_
            refine j_iadd hx hb dX11_steps_128 ?_
            refine lv_bipush (v := iI (8)) hx hb dX11_steps_129 (by decide) ?_
            refine j_irem hx hb (by omega) dX11_steps_131 ?_
            refine j_iast hx hb hK hP hD hS 4 0 rfl rfl (by omega) dX11_steps_132 (fun H locs hP hD hS => ?_)
            have hP : va_P D vwCl [(h0, .inr (11, [.int (iI (th)), .long (lI (tra)), .ref h40, .int (iI (tn)), .int (iI (nx)), .int (iI (tk)), .int (iI (pl)), .int (iI (va)), .int (iI (fl)), .ref h41, .ref h42, .ref h43, .ref h44, .ref h45, .ref h46, .ref h47, .ref h48, .ref h49, .ref h50, .ref h51, .int (iI (tc)), .ref h52, .int (iI (km)), .int (iI (bI dr)), .int (iI (ta)), .int (iI (le)), .int (iI (rm9)), .int (iI (rc9)), .int (iI (fa)), .int (iI (tr)), .int (iI (ro)), .int (iI (lo))])), (h41, .inl (cI, 18, .inl (aI td))), (h42, .inl (cI, 512, .inl (aI gd))), (h43, .inl (cI, 12, .inl (aI sa))), (h60, .inl (cI, 4, .inl (aI (upZ (upZ (upZ (upZ wk 0 ((wk 0) + (asX (wk 2)))) 1 (y0 + (asX ((wk 2) + 6)))) 3 (b0 + 1)) 2 ((d0 + 1) % 8)))))] H := hP
            have hD : va_D A [(h0, .inr (11, [.int (iI (th)), .long (lI (tra)), .ref h40, .int (iI (tn)), .int (iI (nx)), .int (iI (tk)), .int (iI (pl)), .int (iI (va)), .int (iI (fl)), .ref h41, .ref h42, .ref h43, .ref h44, .ref h45, .ref h46, .ref h47, .ref h48, .ref h49, .ref h50, .ref h51, .int (iI (tc)), .ref h52, .int (iI (km)), .int (iI (bI dr)), .int (iI (ta)), .int (iI (le)), .int (iI (rm9)), .int (iI (rc9)), .int (iI (fa)), .int (iI (tr)), .int (iI (ro)), .int (iI (lo))])), (h41, .inl (cI, 18, .inl (aI td))), (h42, .inl (cI, 512, .inl (aI gd))), (h43, .inl (cI, 12, .inl (aI sa))), (h60, .inl (cI, 4, .inl (aI (upZ (upZ (upZ (upZ wk 0 ((wk 0) + (asX (wk 2)))) 1 (y0 + (asX ((wk 2) + 6)))) 3 (b0 + 1)) 2 ((d0 + 1) % 8)))))] := hD
            refine lv_aload_n hx hb dX11_steps_133 rfl (lv_at hl 2 rfl) ?_
            refine lv_iconst (v := iI (3)) hx hb dX11_steps_134 rfl ?_
            refine lv_iconst (v := iI (0)) hx hb dX11_steps_135 rfl ?_
            refine j_iast hx hb hK hP hD hS 4 0 rfl rfl (by omega) dX11_steps_136 (fun H locs hP hD hS => ?_)
            have hP : va_P D vwCl [(h0, .inr (11, [.int (iI (th)), .long (lI (tra)), .ref h40, .int (iI (tn)), .int (iI (nx)), .int (iI (tk)), .int (iI (pl)), .int (iI (va)), .int (iI (fl)), .ref h41, .ref h42, .ref h43, .ref h44, .ref h45, .ref h46, .ref h47, .ref h48, .ref h49, .ref h50, .ref h51, .int (iI (tc)), .ref h52, .int (iI (km)), .int (iI (bI dr)), .int (iI (ta)), .int (iI (le)), .int (iI (rm9)), .int (iI (rc9)), .int (iI (fa)), .int (iI (tr)), .int (iI (ro)), .int (iI (lo))])), (h41, .inl (cI, 18, .inl (aI td))), (h42, .inl (cI, 512, .inl (aI gd))), (h43, .inl (cI, 12, .inl (aI sa))), (h60, .inl (cI, 4, .inl (aI (upZ (upZ (upZ (upZ (upZ wk 0 ((wk 0) + (asX (wk 2)))) 1 (y0 + (asX ((wk 2) + 6)))) 3 (b0 + 1)) 2 ((d0 + 1) % 8)) 3 0))))] H := hP
            have hD : va_D A [(h0, .inr (11, [.int (iI (th)), .long (lI (tra)), .ref h40, .int (iI (tn)), .int (iI (nx)), .int (iI (tk)), .int (iI (pl)), .int (iI (va)), .int (iI (fl)), .ref h41, .ref h42, .ref h43, .ref h44, .ref h45, .ref h46, .ref h47, .ref h48, .ref h49, .ref h50, .ref h51, .int (iI (tc)), .ref h52, .int (iI (km)), .int (iI (bI dr)), .int (iI (ta)), .int (iI (le)), .int (iI (rm9)), .int (iI (rc9)), .int (iI (fa)), .int (iI (tr)), .int (iI (ro)), .int (iI (lo))])), (h41, .inl (cI, 18, .inl (aI td))), (h42, .inl (cI, 512, .inl (aI gd))), (h43, .inl (cI, 12, .inl (aI sa))), (h60, .inl (cI, 4, .inl (aI (upZ (upZ (upZ (upZ (upZ wk 0 ((wk 0) + (asX (wk 2)))) 1 (y0 + (asX ((wk 2) + 6)))) 3 (b0 + 1)) 2 ((d0 + 1) % 8)) 3 0))))] := hD
            refine lv_iconst (v := iI (1)) hx hb dX11_steps_137 rfl ?_
            rw [hQ]; exact jm_iret (upZ (upZ (upZ (upZ (upZ wk 0 ((wk 0) + (asX (wk 2)))) 1 (y0 + (asX ((wk 2) + 6)))) 3 (b0 + 1)) 2 ((d0 + 1) % 8)) 3 0, sa, 1) hx hb hr hlocks hS hP rfl (by (try dsimp only); have hT : ¬ (mA (td 0) (td 1) gd (wk 0 + asX (wk 2)) (wk 1 + asX (wk 2 + 6)) = 2 ∨ mW (td 0) (td 1) gd (wk 0 + td 2 * asX (wk 2)) (wk 1 + td 2 * asX (wk 2 + 6)) = false) := fun w => w.elim (by first | exact c_5 | exact of_decide_eq_true c_5 | exact of_decide_eq_false c_5) (fun v => absurd (v.symm.trans (by first | exact c_16 | simpa using c_16)) (by decide)); refine ⟨?_, fun j => (by rw [if_neg (fun w => hT w.1)])⟩; rw [if_neg hT, ms_move (by first | exact c_5 | exact of_decide_eq_true c_5 | exact of_decide_eq_false c_5) (by first | exact c_16 | simpa using c_16) (by rw [← ey0]; rw [← ex1, ← ey1]; exact (by first | exact c_89 | exact c_89))]; refine Prod.ext rfl (Prod.ext ?_ (Prod.ext ?_ (Prod.ext ?_ ?_))) <;> (simp only [upZ, Int.reduceEq, if_true, if_false]; first | done | omega)) dX11_steps_138
      · refine lv_iconst (v := iI (-1)) hx hb dX11_steps_92 rfl ?_
        rw [hQ]; exact jm_iret (upZ (upZ wk 0 ((wk 0) + (asX (wk 2)))) 1 (y0 + (asX ((wk 2) + 6))), sa, -1) hx hb hr hlocks hS hP rfl (by (try dsimp only); have hT : ¬ (mA (td 0) (td 1) gd (wk 0 + asX (wk 2)) (wk 1 + asX (wk 2 + 6)) = 2 ∨ mW (td 0) (td 1) gd (wk 0 + td 2 * asX (wk 2)) (wk 1 + td 2 * asX (wk 2 + 6)) = false) := fun w => w.elim (by first | exact c_5 | exact of_decide_eq_true c_5 | exact of_decide_eq_false c_5) (fun v => absurd (v.symm.trans (by first | exact c_16 | simpa using c_16)) (by decide)); refine ⟨?_, fun j => (by rw [if_neg (fun w => hT w.1)])⟩; rw [if_neg hT, ms_fall (by first | exact c_5 | exact of_decide_eq_true c_5 | exact of_decide_eq_false c_5) (by first | exact c_16 | simpa using c_16) (by rw [← ey0]; rw [← ex1, ← ey1]; exact (by first | exact c_89 | exact Bool.eq_false_iff.mpr c_89))]; simp [upZ, ey0]) dX11_steps_93
    · refine lv_aload_n hx hb dX11_steps_19 rfl (lv_at hl 0 rfl) ?_
      refine va_get (D := D) (ci := 11) (v := .int (iI (bI dr))) (C := RX11) (T := TX11) (N := 32) hx hb hts UX11 hown hK hP 0 rfl rfl 23 (by decide) L154 (fun _ h9 => h9) rfl dX11_steps_20 ?_
      refine j_ifeq_b (tgt := 35) hx hb dX11_steps_23 (by decide) (fun c_23_1 => ?_) (fun c_23_1 => ?_)
      · exact False.elim (by simp_all)
      · refine lv_iconst (v := iI (1)) hx hb dX11_steps_26 rfl ?_
        refine lv_aload_n hx hb dX11_steps_27 rfl (lv_at hl 0 rfl) ?_
        refine j_mui (va_runV (As := []) (rest := [.int (iI (1))]) ⟨hx, hb, hml, hown, hts⟩ (c_X11_draws l D cI cZ z h0 h40 h41 h42 h43 h44 h45 h46 h47 h48 h49 h50 h51 h52 th tra tn nx tk pl va fl tc km ta le rm9 rc9 fa tr ro lo sa dr  s.heap.size) (cwV 0 hts gX11_steps_X11_draws rfl rfl rfl hvX11_draws ⟨Nat.le_of_ble_eq_true rfl, Nat.le_of_ble_eq_true rfl⟩) (j_preV hP hD hK hS hZ hA [0, 3] rfl rfl 0 rfl rfl) rfl rfl hl.1 rfl (lv_room (Nat.le_of_ble_eq_true rfl)) dX11_steps_28 ⟨Nat.zero_le _, Nat.zero_le _⟩) hP hD hS hA [0, 3] rfl (fun _ => rfl) (fun sad H locs hw_28 hP hD hS => ?_)
        have hP : va_P D vwCl [(h0, .inr (11, [.int (iI (th)), .long (lI (tra)), .ref h40, .int (iI (tn)), .int (iI (nx)), .int (iI (tk)), .int (iI (pl)), .int (iI (va)), .int (iI (fl)), .ref h41, .ref h42, .ref h43, .ref h44, .ref h45, .ref h46, .ref h47, .ref h48, .ref h49, .ref h50, .ref h51, .int (iI (tc)), .ref h52, .int (iI (km)), .int (iI (bI dr)), .int (iI (ta)), .int (iI (le)), .int (iI (rm9)), .int (iI (rc9)), .int (iI (fa)), .int (iI (tr)), .int (iI (ro)), .int (iI (lo))])), (h41, .inl (cI, 18, .inl (aI td))), (h42, .inl (cI, 512, .inl (aI gd))), (h43, .inl (cI, 12, .inl (aI sad))), (h60, .inl (cI, 4, .inl (aI wk)))] H := hP
        have hD : va_D A [(h0, .inr (11, [.int (iI (th)), .long (lI (tra)), .ref h40, .int (iI (tn)), .int (iI (nx)), .int (iI (tk)), .int (iI (pl)), .int (iI (va)), .int (iI (fl)), .ref h41, .ref h42, .ref h43, .ref h44, .ref h45, .ref h46, .ref h47, .ref h48, .ref h49, .ref h50, .ref h51, .int (iI (tc)), .ref h52, .int (iI (km)), .int (iI (bI dr)), .int (iI (ta)), .int (iI (le)), .int (iI (rm9)), .int (iI (rc9)), .int (iI (fa)), .int (iI (tr)), .int (iI (ro)), .int (iI (lo))])), (h41, .inl (cI, 18, .inl (aI td))), (h42, .inl (cI, 512, .inl (aI gd))), (h43, .inl (cI, 12, .inl (aI sad))), (h60, .inl (cI, 4, .inl (aI wk)))] := hD
        refine j_iadd hx hb dX11_steps_31 ?_
        refine lv_goto (tgt := 41) hx hb dX11_steps_32 (by decide) ?_
        refine lv_istore_n (lv' := [(2, .int (iI (1 + (drU (lotN (sa 11)))))), (0, .ref h0), (1, .ref h60)]) hx hb dX11_steps_41 rfl hl (by decide) rfl (fun ls hl => ?_)
        refine lv_aload_n hx hb dX11_steps_42 rfl (lv_at hl 2 rfl) ?_
        refine lv_iconst (v := iI (2)) hx hb dX11_steps_43 rfl ?_
        refine lv_aload_n hx hb dX11_steps_44 rfl (lv_at hl 2 rfl) ?_
        refine lv_iconst (v := iI (2)) hx hb dX11_steps_45 rfl ?_
        refine j_iald hx hb hK hP 4 0 rfl rfl (by omega) dX11_steps_46 ?_
        refine lv_iload_n hx hb dX11_steps_47 rfl (lv_at hl 0 rfl) ?_
        refine j_iadd hx hb dX11_steps_48 ?_
        refine lv_bipush (v := iI (8)) hx hb dX11_steps_49 (by decide) ?_
        refine j_irem hx hb (by omega) dX11_steps_51 ?_
        refine j_iast hx hb hK hP hD hS 4 0 rfl rfl (by omega) dX11_steps_52 (fun H locs hP hD hS => ?_)
        have hP : va_P D vwCl [(h0, .inr (11, [.int (iI (th)), .long (lI (tra)), .ref h40, .int (iI (tn)), .int (iI (nx)), .int (iI (tk)), .int (iI (pl)), .int (iI (va)), .int (iI (fl)), .ref h41, .ref h42, .ref h43, .ref h44, .ref h45, .ref h46, .ref h47, .ref h48, .ref h49, .ref h50, .ref h51, .int (iI (tc)), .ref h52, .int (iI (km)), .int (iI (bI dr)), .int (iI (ta)), .int (iI (le)), .int (iI (rm9)), .int (iI (rc9)), .int (iI (fa)), .int (iI (tr)), .int (iI (ro)), .int (iI (lo))])), (h41, .inl (cI, 18, .inl (aI td))), (h42, .inl (cI, 512, .inl (aI gd))), (h43, .inl (cI, 12, .inl (aI sad))), (h60, .inl (cI, 4, .inl (aI (upZ wk 2 (((wk 2) + (1 + (drU (lotN (sa 11))))) % 8)))))] H := hP
        have hD : va_D A [(h0, .inr (11, [.int (iI (th)), .long (lI (tra)), .ref h40, .int (iI (tn)), .int (iI (nx)), .int (iI (tk)), .int (iI (pl)), .int (iI (va)), .int (iI (fl)), .ref h41, .ref h42, .ref h43, .ref h44, .ref h45, .ref h46, .ref h47, .ref h48, .ref h49, .ref h50, .ref h51, .int (iI (tc)), .ref h52, .int (iI (km)), .int (iI (bI dr)), .int (iI (ta)), .int (iI (le)), .int (iI (rm9)), .int (iI (rc9)), .int (iI (fa)), .int (iI (tr)), .int (iI (ro)), .int (iI (lo))])), (h41, .inl (cI, 18, .inl (aI td))), (h42, .inl (cI, 512, .inl (aI gd))), (h43, .inl (cI, 12, .inl (aI sad))), (h60, .inl (cI, 4, .inl (aI (upZ wk 2 (((wk 2) + (1 + (drU (lotN (sa 11))))) % 8)))))] := hD
        refine lv_iconst (v := iI (0)) hx hb dX11_steps_53 rfl ?_
        rw [hQ]; exact jm_iret (upZ wk 2 (((wk 2) + (1 + (drU (lotN (sa 11))))) % 8), sad, 0) hx hb hr hlocks hS hP rfl (by (try dsimp only); have hT : mA (td 0) (td 1) gd (wk 0 + asX (wk 2)) (wk 1 + asX (wk 2 + 6)) = 2 ∨ mW (td 0) (td 1) gd (wk 0 + td 2 * asX (wk 2)) (wk 1 + td 2 * asX (wk 2 + 6)) = false := (by first | exact Or.inl (by first | exact c_5 | exact of_decide_eq_true c_5 | exact of_decide_eq_false c_5) | exact Or.inr (by first | exact c_16 | simpa using c_16)); refine ⟨?_, fun j => ?_⟩; (rw [if_pos hT, ms_turn hT]; simp [upZ]); (rw [hw_28]; by_cases hj : j = 11; (rw [hj, upZ_s, if_pos ⟨hT, rfl⟩]); (rw [upZ_n hj, if_neg (fun w => hj w.2)]))) dX11_steps_54
