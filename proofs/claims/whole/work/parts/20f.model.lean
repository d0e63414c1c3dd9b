abbrev rmX11_cellOf : Room := { frames := 0, cells := 0, slots := 0, locals := 0 }
set_option maxHeartbeats 4000000 in
set_option maxRecDepth 100000 in
theorem c_X11_cellOf (l : Launch) (D : va_G) (cI cZ : ClassId) (z : jZT) (h0 h60 h40 h41 h42 h43 h44 h45 h46 h47 h48 h49 h50 h51 h52 : Nat) (th tra tn nx tk pl va fl tc km ta le rm9 rc9 fa tr ro lo : Int) (td wk : Int → Int) (dr : Bool) : jRd l yX11_cellOf wsX11_cellOf rmX11_cellOf [.ref h0, .ref h60] D cI cZ z [(h0, .inr (11, [.int (iI (th)), .long (lI (tra)), .ref h40, .int (iI (tn)), .int (iI (nx)), .int (iI (tk)), .int (iI (pl)), .int (iI (va)), .int (iI (fl)), .ref h41, .ref h42, .ref h43, .ref h44, .ref h45, .ref h46, .ref h47, .ref h48, .ref h49, .ref h50, .ref h51, .int (iI (tc)), .ref h52, .int (iI (km)), .int (iI (bI dr)), .int (iI (ta)), .int (iI (le)), .int (iI (rm9)), .int (iI (rc9)), .int (iI (fa)), .int (iI (tr)), .int (iI (ro)), .int (iI (lo))])), (h41, .inl (cI, 18, .inl (aI td))), (h60, .inl (cI, 4, .inl (aI wk)))] (some (.int (iI (td 0 * wk 1 + wk 0)))) := by
  refine jRd_of (cc := cX11_cellOf) (n := 2) (ret := (some .int)) (by decide) rfl (Nat.le_of_ble_eq_true rfl) ?_
  intro p e s m below meth c A ls args Q hQ F hA hZ hP hK hD hS hl
  obtain ⟨hx, hb, hr, hml, hown, hts, hlocks⟩ := F
  have hown : s.vm.findClass RX11 = some m.cls := hown
  have hl : lv_has ls 2 [(0, .ref h0), (1, .ref h60)] := hl
  have L13 := hts (.fieldLink RX11 13 "TinMouseModel" "told" "[I") (by decide +kernel)
  have UX11 : ∀ w ∈ wsX110, w ∈ wsX11_cellOf := fun w h => List.mem_cons_of_mem _ (List.mem_append_right _ h)
  refine lv_aload_n hx hb dX11_cellOf_0 rfl (lv_at hl 0 rfl) ?_
  refine va_get (D := D) (ci := 11) (v := .ref h41) (C := RX11) (T := TX11) (N := 32) hx hb hts UX11 hown hK hP 0 rfl rfl 9 (by decide) L13 (fun _ h9 => h9) rfl dX11_cellOf_1 ?_
  refine lv_iconst (v := iI (0)) hx hb dX11_cellOf_4 rfl ?_
  refine j_iald hx hb hK hP 1 0 rfl rfl (by omega) dX11_cellOf_5 ?_
  refine lv_aload_n hx hb dX11_cellOf_6 rfl (lv_at hl 1 rfl) ?_
  refine lv_iconst (v := iI (1)) hx hb dX11_cellOf_7 rfl ?_
  refine j_iald hx hb hK hP 2 0 rfl rfl (by omega) dX11_cellOf_8 ?_
  refine j_imul hx hb dX11_cellOf_9 ?_
  refine lv_aload_n hx hb dX11_cellOf_10 rfl (lv_at hl 1 rfl) ?_
  refine lv_iconst (v := iI (0)) hx hb dX11_cellOf_11 rfl ?_
  refine j_iald hx hb hK hP 2 0 rfl rfl (by omega) dX11_cellOf_12 ?_
  refine j_iadd hx hb dX11_cellOf_13 ?_
  rw [hQ]; exact jr_iret hx hb hr hlocks (jo_i (by rfl)) dX11_cellOf_14
theorem hsX11_cellOf : yX11_cellOf.cls ≠ "java/lang/invoke/MethodHandle" ∧ yX11_cellOf.cls ≠ "java/lang/invoke/VarHandle" ∧ (parseMethodDescriptor yX11_cellOf.desc).map (fun d => d.parameters.length) = some 1 := by decide +kernel
theorem hvX11_cellOf : yX11_cellOf.cls = RX11 ∧ yX11_cellOf.cls ≠ "java/lang/invoke/MethodHandle" ∧ yX11_cellOf.cls ≠ "java/lang/invoke/VarHandle" ∧ (parseMethodDescriptor yX11_cellOf.desc).map (fun d => d.parameters.length) = some 1 := ⟨rfl, hsX11_cellOf⟩
abbrev rmX11_stand : Room := { frames := 1, cells := 0, slots := 0, locals := 21 }
set_option maxHeartbeats 4000000 in
set_option maxRecDepth 100000 in
theorem c_X11_stand (l : Launch) (D : va_G) (cI cZ : ClassId) (z : jZT) (h0 h60 h40 h41 h42 h43 h44 h45 h46 h47 h48 h49 h50 h51 h52 : Nat) (th tra tn nx tk pl va fl tc km ta le rm9 rc9 fa tr ro lo : Int) (td wk : Int → Int) (dr : Bool) : jRd l yX11_stand wsX11_stand rmX11_stand [.ref h0, .ref h60] D cI cZ z [(h0, .inr (11, [.int (iI (th)), .long (lI (tra)), .ref h40, .int (iI (tn)), .int (iI (nx)), .int (iI (tk)), .int (iI (pl)), .int (iI (va)), .int (iI (fl)), .ref h41, .ref h42, .ref h43, .ref h44, .ref h45, .ref h46, .ref h47, .ref h48, .ref h49, .ref h50, .ref h51, .int (iI (tc)), .ref h52, .int (iI (km)), .int (iI (bI dr)), .int (iI (ta)), .int (iI (le)), .int (iI (rm9)), .int (iI (rc9)), .int (iI (fa)), .int (iI (tr)), .int (iI (ro)), .int (iI (lo))])), (h41, .inl (cI, 18, .inl (aI td))), (h60, .inl (cI, 4, .inl (aI wk)))] (some (.int (iI (80 * (td 0 * wk 1 + wk 0) + 10 * wk 2 + wk 3)))) := by
  refine jRd_of (cc := cX11_stand) (n := 2) (ret := (some .int)) (by decide) rfl (Nat.le_of_ble_eq_true rfl) ?_
  intro p e s m below meth c A ls args Q hQ F hA hZ hP hK hD hS hl
  obtain ⟨hx, hb, hr, hml, hown, hts, hlocks⟩ := F
  have hown : s.vm.findClass RX11 = some m.cls := hown
  have hl : lv_has ls 2 [(0, .ref h0), (1, .ref h60)] := hl
  refine lv_bipush (v := iI (80)) hx hb dX11_stand_0 (by decide) ?_
  refine lv_aload_n hx hb dX11_stand_2 rfl (lv_at hl 0 rfl) ?_
  refine lv_aload_n hx hb dX11_stand_3 rfl (lv_at hl 1 rfl) ?_
  refine j_rd (va_runV (As := [.ref h60]) (rest := [.int (iI (80))]) ⟨hx, hb, hml, hown, hts⟩ (c_X11_cellOf l D cI cZ z h0 h60 h40 h41 h42 h43 h44 h45 h46 h47 h48 h49 h50 h51 h52 th tra tn nx tk pl va fl tc km ta le rm9 rc9 fa tr ro lo td wk dr  s.heap.size) (cwV 1 hts gX11_stand_X11_cellOf rfl rfl rfl hvX11_cellOf ⟨Nat.le_of_ble_eq_true rfl, Nat.le_of_ble_eq_true rfl⟩) (j_preV hP hD hK hS hZ hA [0, 1, 2] rfl rfl 0 rfl rfl) rfl rfl hl.1 rfl (lv_room (Nat.le_of_ble_eq_true rfl)) dX11_stand_4 ⟨Nat.zero_le _, Nat.zero_le _⟩) ?_
  refine j_imul hx hb dX11_stand_7 ?_
  refine lv_bipush (v := iI (10)) hx hb dX11_stand_8 (by decide) ?_
  refine lv_aload_n hx hb dX11_stand_10 rfl (lv_at hl 1 rfl) ?_
  refine lv_iconst (v := iI (2)) hx hb dX11_stand_11 rfl ?_
  refine j_iald hx hb hK hP 2 0 rfl rfl (by omega) dX11_stand_12 ?_
  refine j_imul hx hb dX11_stand_13 ?_
  refine j_iadd hx hb dX11_stand_14 ?_
  refine lv_aload_n hx hb dX11_stand_15 rfl (lv_at hl 1 rfl) ?_
  refine lv_iconst (v := iI (3)) hx hb dX11_stand_16 rfl ?_
  refine j_iald hx hb hK hP 2 0 rfl rfl (by omega) dX11_stand_17 ?_
  refine j_iadd hx hb dX11_stand_18 ?_
  rw [hQ]; exact jr_iret hx hb hr hlocks (jo_i (by rfl)) dX11_stand_19
abbrev rmX11_unmarks : Room := { frames := 0, cells := 0, slots := 0, locals := 0 }
set_option maxHeartbeats 4000000 in
set_option maxRecDepth 100000 in
theorem c_X11_unmarks (l : Launch) (D : va_G) (cI cZ : ClassId) (z : jZT) (h0 h40 h41 h42 h43 h44 h45 h46 h47 h48 h49 h50 h51 h52 : Nat) (th tra tn nx tk pl va fl tc km ta le rm9 rc9 fa tr ro lo : Int) (mm : Int → Int) (dr : Bool) : jMu (S := (Int → Int)) l yX11_unmarks wsX11_unmarks rmX11_unmarks [.ref h0] D cI cZ z [(h0, .inr (11, [.int (iI (th)), .long (lI (tra)), .ref h40, .int (iI (tn)), .int (iI (nx)), .int (iI (tk)), .int (iI (pl)), .int (iI (va)), .int (iI (fl)), .ref h41, .ref h42, .ref h43, .ref h44, .ref h45, .ref h46, .ref h47, .ref h48, .ref h49, .ref h50, .ref h51, .int (iI (tc)), .ref h52, .int (iI (km)), .int (iI (bI dr)), .int (iI (ta)), .int (iI (le)), .int (iI (rm9)), .int (iI (rc9)), .int (iI (fa)), .int (iI (tr)), .int (iI (ro)), .int (iI (lo))])), (h48, .inl (cI, 20480, .inl (aI mm)))] (fun u => none) (fun u => ∀ j : Int, 0 ≤ j → j < 20480 → u j = 0) (fun u => [(h0, .inr (11, [.int (iI (th)), .long (lI (tra)), .ref h40, .int (iI (tn)), .int (iI (nx)), .int (iI (tk)), .int (iI (pl)), .int (iI (va)), .int (iI (fl)), .ref h41, .ref h42, .ref h43, .ref h44, .ref h45, .ref h46, .ref h47, .ref h48, .ref h49, .ref h50, .ref h51, .int (iI (tc)), .ref h52, .int (iI (km)), .int (iI (bI dr)), .int (iI (ta)), .int (iI (le)), .int (iI (rm9)), .int (iI (rc9)), .int (iI (fa)), .int (iI (tr)), .int (iI (ro)), .int (iI (lo))])), (h48, .inl (cI, 20480, .inl (aI u)))]) := by
  refine jMu_of (cc := cX11_unmarks) (n := 2) (ret := none) (by decide) rfl (Nat.le_of_ble_eq_true rfl) ?_
  intro p e s m below meth c A ls args Q hQ F hA hZ hP hK hD hS hl
  obtain ⟨hx, hb, hr, hml, hown, hts, hlocks⟩ := F
  have hown : s.vm.findClass RX11 = some m.cls := hown
  have hl : lv_has ls 2 [(0, .ref h0)] := hl
  have L35 := hts (.fieldLink RX11 35 "TinMouseModel" "marks" "[I") (by decide +kernel)
  have UX11 : ∀ w ∈ wsX110, w ∈ wsX11_unmarks := fun w h => List.mem_cons_of_mem _ (List.mem_append_right _ h)
  refine lv_iconst (v := iI (0)) hx hb dX11_unmarks_0 rfl ?_
  refine lv_istore_n (lv' := [(1, .int (iI (0))), (0, .ref h0)]) hx hb dX11_unmarks_1 rfl hl (by decide) rfl (fun ls hl => ?_)
  have loop_2 : ∀ (fuel_2 : Nat) (i : Int) (mm9 : Int → Int), (0 ≤ i ∧ i ≤ 20480 ∧ ∀ j : Int, 0 ≤ j → j < i → mm9 j = 0) → (20480 - i).toNat < fuel_2 → ∀ (H : Heap) (locs : List Loc), va_P D vwCl [(h0, .inr (11, [.int (iI (th)), .long (lI (tra)), .ref h40, .int (iI (tn)), .int (iI (nx)), .int (iI (tk)), .int (iI (pl)), .int (iI (va)), .int (iI (fl)), .ref h41, .ref h42, .ref h43, .ref h44, .ref h45, .ref h46, .ref h47, .ref h48, .ref h49, .ref h50, .ref h51, .int (iI (tc)), .ref h52, .int (iI (km)), .int (iI (bI dr)), .int (iI (ta)), .int (iI (le)), .int (iI (rm9)), .int (iI (rc9)), .int (iI (fa)), .int (iI (tr)), .int (iI (ro)), .int (iI (lo))])), (h48, .inl (cI, 20480, .inl (aI mm9)))] H → va_D A [(h0, .inr (11, [.int (iI (th)), .long (lI (tra)), .ref h40, .int (iI (tn)), .int (iI (nx)), .int (iI (tk)), .int (iI (pl)), .int (iI (va)), .int (iI (fl)), .ref h41, .ref h42, .ref h43, .ref h44, .ref h45, .ref h46, .ref h47, .ref h48, .ref h49, .ref h50, .ref h51, .int (iI (tc)), .ref h52, .int (iI (km)), .int (iI (bI dr)), .int (iI (ta)), .int (iI (le)), .int (iI (rm9)), .int (iI (rc9)), .int (iI (fa)), .int (iI (tr)), .int (iI (ro)), .int (iI (lo))])), (h48, .inl (cI, 20480, .inl (aI mm9)))] → va_S A s.heap H locs → ∀ ls : Array Slot, lv_has ls 2 [(0, .ref h0), (1, .int (iI (i)))] → W p l e rmX11_unmarks s m args below meth c H locs 0 0 Q (F0 m 2 ls []) := by
    intro fuel_2
    induction fuel_2 with
    | zero => intro i mm9 hI9 hm9; exact absurd hm9 (Nat.not_lt_zero _)
    | succ fuel_2 ih_2 =>
      intro i mm9 hI_2 hm_2 H locs hP hD hS ls hl
      obtain ⟨hi1, hi2, hi3⟩ := hI_2
      refine lv_iload_n hx hb dX11_unmarks_2 rfl (lv_at hl 1 rfl) ?_
      refine lv_sipush (v := iI (20480)) hx hb dX11_unmarks_3 (by decide) ?_
      refine j_icmp_ge (tgt := 22) hx hb (by omega) dX11_unmarks_6 (by decide) (fun c_6 => ?_) (fun c_6 => ?_)
      · rw [hQ]; exact jm_vret mm9 hx hb hr hlocks hS hP rfl (by (try dsimp only); exact fun j h1 h2 => hi3 j h1 (by omega)) dX11_unmarks_22
      · refine lv_aload_n hx hb dX11_unmarks_9 rfl (lv_at hl 0 rfl) ?_
        refine va_get (D := D) (ci := 11) (v := .ref h48) (C := RX11) (T := TX11) (N := 32) hx hb hts UX11 hown hK hP 0 rfl rfl 16 (by decide) L35 (fun _ h9 => h9) rfl dX11_unmarks_10 ?_
        refine lv_iload_n hx hb dX11_unmarks_13 rfl (lv_at hl 1 rfl) ?_
        refine lv_iconst (v := iI (0)) hx hb dX11_unmarks_14 rfl ?_
        refine j_iast hx hb hK hP hD hS 1 0 rfl rfl (by omega) dX11_unmarks_15 (fun H locs hP hD hS => ?_)
        have hP : va_P D vwCl [(h0, .inr (11, [.int (iI (th)), .long (lI (tra)), .ref h40, .int (iI (tn)), .int (iI (nx)), .int (iI (tk)), .int (iI (pl)), .int (iI (va)), .int (iI (fl)), .ref h41, .ref h42, .ref h43, .ref h44, .ref h45, .ref h46, .ref h47, .ref h48, .ref h49, .ref h50, .ref h51, .int (iI (tc)), .ref h52, .int (iI (km)), .int (iI (bI dr)), .int (iI (ta)), .int (iI (le)), .int (iI (rm9)), .int (iI (rc9)), .int (iI (fa)), .int (iI (tr)), .int (iI (ro)), .int (iI (lo))])), (h48, .inl (cI, 20480, .inl (aI (upZ mm9 i 0))))] H := hP
        have hD : va_D A [(h0, .inr (11, [.int (iI (th)), .long (lI (tra)), .ref h40, .int (iI (tn)), .int (iI (nx)), .int (iI (tk)), .int (iI (pl)), .int (iI (va)), .int (iI (fl)), .ref h41, .ref h42, .ref h43, .ref h44, .ref h45, .ref h46, .ref h47, .ref h48, .ref h49, .ref h50, .ref h51, .int (iI (tc)), .ref h52, .int (iI (km)), .int (iI (bI dr)), .int (iI (ta)), .int (iI (le)), .int (iI (rm9)), .int (iI (rc9)), .int (iI (fa)), .int (iI (tr)), .int (iI (ro)), .int (iI (lo))])), (h48, .inl (cI, 20480, .inl (aI (upZ mm9 i 0))))] := hD
        refine lv_iinc (v := iI (i + 1)) (lv' := [(1, .int (iI (i + 1))), (0, .ref h0)]) hx hb dX11_unmarks_16 hl (k := 1) rfl (iI_add _ _) (by decide) rfl (fun ls hl => ?_)
        refine lv_goto (tgt := 2) hx hb dX11_unmarks_19 (by decide) ?_
        exact ih_2 ((i + 1)) ((upZ mm9 i 0)) (by exact ⟨by omega, by omega, fun j h1 h2 => by by_cases hj : j = i <;> first | (rw [hj, upZ_s]; done) | (rw [upZ_n hj]; exact hi3 j h1 (by omega))⟩) (by omega) H locs hP hD hS ls (lv_sub hl [1, 0] rfl)
  exact loop_2 _ 0 mm (by exact ⟨by omega, by omega, fun j h1 h2 => by omega⟩) (Nat.lt_succ_self _) s.heap [] hP hD hS ls (lv_sub hl [1, 0] rfl)
abbrev rmX11_bares : Room := { frames := 0, cells := 0, slots := 0, locals := 0 }
set_option maxHeartbeats 4000000 in
set_option maxRecDepth 100000 in
theorem c_X11_bares (l : Launch) (D : va_G) (cI cZ : ClassId) (z : jZT) (h0 h40 h41 h42 h43 h44 h45 h46 h47 h48 h49 h50 h51 h52 : Nat) (th tra tn nx tk pl va fl tc km ta le rm9 rc9 fa tr ro lo : Int) (oc : Int → Int) (dr : Bool) : jMu (S := (Int → Int)) l yX11_bares wsX11_bares rmX11_bares [.ref h0] D cI cZ z [(h0, .inr (11, [.int (iI (th)), .long (lI (tra)), .ref h40, .int (iI (tn)), .int (iI (nx)), .int (iI (tk)), .int (iI (pl)), .int (iI (va)), .int (iI (fl)), .ref h41, .ref h42, .ref h43, .ref h44, .ref h45, .ref h46, .ref h47, .ref h48, .ref h49, .ref h50, .ref h51, .int (iI (tc)), .ref h52, .int (iI (km)), .int (iI (bI dr)), .int (iI (ta)), .int (iI (le)), .int (iI (rm9)), .int (iI (rc9)), .int (iI (fa)), .int (iI (tr)), .int (iI (ro)), .int (iI (lo))])), (h49, .inl (cI, 256, .inl (aI oc)))] (fun u => none) (fun u => ∀ j : Int, 0 ≤ j → j < 256 → u j = 0) (fun u => [(h0, .inr (11, [.int (iI (th)), .long (lI (tra)), .ref h40, .int (iI (tn)), .int (iI (nx)), .int (iI (tk)), .int (iI (pl)), .int (iI (va)), .int (iI (fl)), .ref h41, .ref h42, .ref h43, .ref h44, .ref h45, .ref h46, .ref h47, .ref h48, .ref h49, .ref h50, .ref h51, .int (iI (tc)), .ref h52, .int (iI (km)), .int (iI (bI dr)), .int (iI (ta)), .int (iI (le)), .int (iI (rm9)), .int (iI (rc9)), .int (iI (fa)), .int (iI (tr)), .int (iI (ro)), .int (iI (lo))])), (h49, .inl (cI, 256, .inl (aI u)))]) := by
  refine jMu_of (cc := cX11_bares) (n := 2) (ret := none) (by decide) rfl (Nat.le_of_ble_eq_true rfl) ?_
  intro p e s m below meth c A ls args Q hQ F hA hZ hP hK hD hS hl
  obtain ⟨hx, hb, hr, hml, hown, hts, hlocks⟩ := F
  have hown : s.vm.findClass RX11 = some m.cls := hown
  have hl : lv_has ls 2 [(0, .ref h0)] := hl
  have L38 := hts (.fieldLink RX11 38 "TinMouseModel" "onCell" "[I") (by decide +kernel)
  have UX11 : ∀ w ∈ wsX110, w ∈ wsX11_bares := fun w h => List.mem_cons_of_mem _ (List.mem_append_right _ h)
  refine lv_iconst (v := iI (0)) hx hb dX11_bares_0 rfl ?_
  refine lv_istore_n (lv' := [(1, .int (iI (0))), (0, .ref h0)]) hx hb dX11_bares_1 rfl hl (by decide) rfl (fun ls hl => ?_)
  have loop_2 : ∀ (fuel_2 : Nat) (i : Int) (oc9 : Int → Int), (0 ≤ i ∧ i ≤ 256 ∧ ∀ j : Int, 0 ≤ j → j < i → oc9 j = 0) → (256 - i).toNat < fuel_2 → ∀ (H : Heap) (locs : List Loc), va_P D vwCl [(h0, .inr (11, [.int (iI (th)), .long (lI (tra)), .ref h40, .int (iI (tn)), .int (iI (nx)), .int (iI (tk)), .int (iI (pl)), .int (iI (va)), .int (iI (fl)), .ref h41, .ref h42, .ref h43, .ref h44, .ref h45, .ref h46, .ref h47, .ref h48, .ref h49, .ref h50, .ref h51, .int (iI (tc)), .ref h52, .int (iI (km)), .int (iI (bI dr)), .int (iI (ta)), .int (iI (le)), .int (iI (rm9)), .int (iI (rc9)), .int (iI (fa)), .int (iI (tr)), .int (iI (ro)), .int (iI (lo))])), (h49, .inl (cI, 256, .inl (aI oc9)))] H → va_D A [(h0, .inr (11, [.int (iI (th)), .long (lI (tra)), .ref h40, .int (iI (tn)), .int (iI (nx)), .int (iI (tk)), .int (iI (pl)), .int (iI (va)), .int (iI (fl)), .ref h41, .ref h42, .ref h43, .ref h44, .ref h45, .ref h46, .ref h47, .ref h48, .ref h49, .ref h50, .ref h51, .int (iI (tc)), .ref h52, .int (iI (km)), .int (iI (bI dr)), .int (iI (ta)), .int (iI (le)), .int (iI (rm9)), .int (iI (rc9)), .int (iI (fa)), .int (iI (tr)), .int (iI (ro)), .int (iI (lo))])), (h49, .inl (cI, 256, .inl (aI oc9)))] → va_S A s.heap H locs → ∀ ls : Array Slot, lv_has ls 2 [(0, .ref h0), (1, .int (iI (i)))] → W p l e rmX11_bares s m args below meth c H locs 0 0 Q (F0 m 2 ls []) := by
    intro fuel_2
    induction fuel_2 with
    | zero => intro i oc9 hI9 hm9; exact absurd hm9 (Nat.not_lt_zero _)
    | succ fuel_2 ih_2 =>
      intro i oc9 hI_2 hm_2 H locs hP hD hS ls hl
      obtain ⟨hi1, hi2, hi3⟩ := hI_2
      refine lv_iload_n hx hb dX11_bares_2 rfl (lv_at hl 1 rfl) ?_
      refine lv_sipush (v := iI (256)) hx hb dX11_bares_3 (by decide) ?_
      refine j_icmp_ge (tgt := 22) hx hb (by omega) dX11_bares_6 (by decide) (fun c_6 => ?_) (fun c_6 => ?_)
      · rw [hQ]; exact jm_vret oc9 hx hb hr hlocks hS hP rfl (by (try dsimp only); exact fun j h1 h2 => hi3 j h1 (by omega)) dX11_bares_22
      · refine lv_aload_n hx hb dX11_bares_9 rfl (lv_at hl 0 rfl) ?_
        refine va_get (D := D) (ci := 11) (v := .ref h49) (C := RX11) (T := TX11) (N := 32) hx hb hts UX11 hown hK hP 0 rfl rfl 17 (by decide) L38 (fun _ h9 => h9) rfl dX11_bares_10 ?_
        refine lv_iload_n hx hb dX11_bares_13 rfl (lv_at hl 1 rfl) ?_
        refine lv_iconst (v := iI (0)) hx hb dX11_bares_14 rfl ?_
        refine j_iast hx hb hK hP hD hS 1 0 rfl rfl (by omega) dX11_bares_15 (fun H locs hP hD hS => ?_)
        have hP : va_P D vwCl [(h0, .inr (11, [.int (iI (th)), .long (lI (tra)), .ref h40, .int (iI (tn)), .int (iI (nx)), .int (iI (tk)), .int (iI (pl)), .int (iI (va)), .int (iI (fl)), .ref h41, .ref h42, .ref h43, .ref h44, .ref h45, .ref h46, .ref h47, .ref h48, .ref h49, .ref h50, .ref h51, .int (iI (tc)), .ref h52, .int (iI (km)), .int (iI (bI dr)), .int (iI (ta)), .int (iI (le)), .int (iI (rm9)), .int (iI (rc9)), .int (iI (fa)), .int (iI (tr)), .int (iI (ro)), .int (iI (lo))])), (h49, .inl (cI, 256, .inl (aI (upZ oc9 i 0))))] H := hP
        have hD : va_D A [(h0, .inr (11, [.int (iI (th)), .long (lI (tra)), .ref h40, .int (iI (tn)), .int (iI (nx)), .int (iI (tk)), .int (iI (pl)), .int (iI (va)), .int (iI (fl)), .ref h41, .ref h42, .ref h43, .ref h44, .ref h45, .ref h46, .ref h47, .ref h48, .ref h49, .ref h50, .ref h51, .int (iI (tc)), .ref h52, .int (iI (km)), .int (iI (bI dr)), .int (iI (ta)), .int (iI (le)), .int (iI (rm9)), .int (iI (rc9)), .int (iI (fa)), .int (iI (tr)), .int (iI (ro)), .int (iI (lo))])), (h49, .inl (cI, 256, .inl (aI (upZ oc9 i 0))))] := hD
        refine lv_iinc (v := iI (i + 1)) (lv' := [(1, .int (iI (i + 1))), (0, .ref h0)]) hx hb dX11_bares_16 hl (k := 1) rfl (iI_add _ _) (by decide) rfl (fun ls hl => ?_)
        refine lv_goto (tgt := 2) hx hb dX11_bares_19 (by decide) ?_
        exact ih_2 ((i + 1)) ((upZ oc9 i 0)) (by exact ⟨by omega, by omega, fun j h1 h2 => by by_cases hj : j = i <;> first | (rw [hj, upZ_s]; done) | (rw [upZ_n hj]; exact hi3 j h1 (by omega))⟩) (by omega) H locs hP hD hS ls (lv_sub hl [1, 0] rfl)
  exact loop_2 _ 0 oc (by exact ⟨by omega, by omega, fun j h1 h2 => by omega⟩) (Nat.lt_succ_self _) s.heap [] hP hD hS ls (lv_sub hl [1, 0] rfl)
abbrev rmX11_fromNow : Room := { frames := 0, cells := 0, slots := 0, locals := 0 }
set_option maxHeartbeats 4000000 in
set_option maxRecDepth 100000 in
theorem c_X11_fromNow (l : Launch) (D : va_G) (cI cZ : ClassId) (z : jZT) (h0 h40 h41 h42 h43 h44 h45 h46 h47 h48 h49 h50 h51 h52 : Nat) (th tra tn nx tk pl va fl tc km ta le rm9 rc9 fa tr ro lo : Int) (sa wk : Int → Int) (dr : Bool) : jMu (S := (Int → Int)) l yX11_fromNow wsX11_fromNow rmX11_fromNow [.ref h0] D cI cZ z [(h0, .inr (11, [.int (iI (th)), .long (lI (tra)), .ref h40, .int (iI (tn)), .int (iI (nx)), .int (iI (tk)), .int (iI (pl)), .int (iI (va)), .int (iI (fl)), .ref h41, .ref h42, .ref h43, .ref h44, .ref h45, .ref h46, .ref h47, .ref h48, .ref h49, .ref h50, .ref h51, .int (iI (tc)), .ref h52, .int (iI (km)), .int (iI (bI dr)), .int (iI (ta)), .int (iI (le)), .int (iI (rm9)), .int (iI (rc9)), .int (iI (fa)), .int (iI (tr)), .int (iI (ro)), .int (iI (lo))])), (h43, .inl (cI, 12, .inl (aI sa))), (h46, .inl (cI, 4, .inl (aI wk)))] (fun u => none) (fun u => ∀ j : Int, 0 ≤ j → j < 4 → u j = sa j) (fun u => [(h0, .inr (11, [.int (iI (th)), .long (lI (tra)), .ref h40, .int (iI (tn)), .int (iI (nx)), .int (iI (tk)), .int (iI (pl)), .int (iI (va)), .int (iI (fl)), .ref h41, .ref h42, .ref h43, .ref h44, .ref h45, .ref h46, .ref h47, .ref h48, .ref h49, .ref h50, .ref h51, .int (iI (tc)), .ref h52, .int (iI (km)), .int (iI (bI false)), .int (iI (ta)), .int (iI (le)), .int (iI (rm9)), .int (iI (rc9)), .int (iI (fa)), .int (iI (tr)), .int (iI (ro)), .int (iI (lo))])), (h43, .inl (cI, 12, .inl (aI sa))), (h46, .inl (cI, 4, .inl (aI u)))]) := by
  refine jMu_of (cc := cX11_fromNow) (n := 2) (ret := none) (by decide) rfl (Nat.le_of_ble_eq_true rfl) ?_
  intro p e s m below meth c A ls args Q hQ F hA hZ hP hK hD hS hl
  obtain ⟨hx, hb, hr, hml, hown, hts, hlocks⟩ := F
  have hown : s.vm.findClass RX11 = some m.cls := hown
  have hl : lv_has ls 2 [(0, .ref h0)] := hl
  have L154 := hts (.fieldLink RX11 154 "TinMouseModel" "isDrawn" "Z") (by decide +kernel)
  have L29 := hts (.fieldLink RX11 29 "TinMouseModel" "walk" "[I") (by decide +kernel)
  have L19 := hts (.fieldLink RX11 19 "TinMouseModel" "s" "[I") (by decide +kernel)
  have UX11 : ∀ w ∈ wsX110, w ∈ wsX11_fromNow := fun w h => List.mem_cons_of_mem _ (List.mem_append_right _ h)
  refine lv_aload_n hx hb dX11_fromNow_0 rfl (lv_at hl 0 rfl) ?_
  refine lv_iconst (v := iI (0)) hx hb dX11_fromNow_1 rfl ?_
  rw [show iI 0 = iI (bI false) from rfl]
  refine va_put (D := D) (ci := 11) (v := .int (iI (bI false))) (ty := .boolean) (C := RX11) (T := TX11) (N := 32) hx hb hts UX11 tyX11 tyX11_ok nmX11 hown hK hP hD hS 0 rfl rfl 23 (by decide) L154 (fun _ h9 => h9) rfl rfl (by exact jn_b _) (by exact jf_b _) (Nat.le_of_ble_eq_true rfl) dX11_fromNow_2 (fun H locs hP hD hS => ?_)
  have hP : va_P D vwCl [(h0, .inr (11, [.int (iI (th)), .long (lI (tra)), .ref h40, .int (iI (tn)), .int (iI (nx)), .int (iI (tk)), .int (iI (pl)), .int (iI (va)), .int (iI (fl)), .ref h41, .ref h42, .ref h43, .ref h44, .ref h45, .ref h46, .ref h47, .ref h48, .ref h49, .ref h50, .ref h51, .int (iI (tc)), .ref h52, .int (iI (km)), .int (iI (bI false)), .int (iI (ta)), .int (iI (le)), .int (iI (rm9)), .int (iI (rc9)), .int (iI (fa)), .int (iI (tr)), .int (iI (ro)), .int (iI (lo))])), (h43, .inl (cI, 12, .inl (aI sa))), (h46, .inl (cI, 4, .inl (aI wk)))] H := hP
  have hD : va_D A [(h0, .inr (11, [.int (iI (th)), .long (lI (tra)), .ref h40, .int (iI (tn)), .int (iI (nx)), .int (iI (tk)), .int (iI (pl)), .int (iI (va)), .int (iI (fl)), .ref h41, .ref h42, .ref h43, .ref h44, .ref h45, .ref h46, .ref h47, .ref h48, .ref h49, .ref h50, .ref h51, .int (iI (tc)), .ref h52, .int (iI (km)), .int (iI (bI false)), .int (iI (ta)), .int (iI (le)), .int (iI (rm9)), .int (iI (rc9)), .int (iI (fa)), .int (iI (tr)), .int (iI (ro)), .int (iI (lo))])), (h43, .inl (cI, 12, .inl (aI sa))), (h46, .inl (cI, 4, .inl (aI wk)))] := hD
  refine lv_iconst (v := iI (0)) hx hb dX11_fromNow_5 rfl ?_
  refine lv_istore_n (lv' := [(1, .int (iI (0))), (0, .ref h0)]) hx hb dX11_fromNow_6 rfl hl (by decide) rfl (fun ls hl => ?_)
  have loop_7 : ∀ (fuel_7 : Nat) (i : Int) (wk9 : Int → Int), (0 ≤ i ∧ i ≤ 4 ∧ ∀ j : Int, 0 ≤ j → j < i → wk9 j = sa j) → (4 - i).toNat < fuel_7 → ∀ (H : Heap) (locs : List Loc), va_P D vwCl [(h0, .inr (11, [.int (iI (th)), .long (lI (tra)), .ref h40, .int (iI (tn)), .int (iI (nx)), .int (iI (tk)), .int (iI (pl)), .int (iI (va)), .int (iI (fl)), .ref h41, .ref h42, .ref h43, .ref h44, .ref h45, .ref h46, .ref h47, .ref h48, .ref h49, .ref h50, .ref h51, .int (iI (tc)), .ref h52, .int (iI (km)), .int (iI (bI false)), .int (iI (ta)), .int (iI (le)), .int (iI (rm9)), .int (iI (rc9)), .int (iI (fa)), .int (iI (tr)), .int (iI (ro)), .int (iI (lo))])), (h43, .inl (cI, 12, .inl (aI sa))), (h46, .inl (cI, 4, .inl (aI wk9)))] H → va_D A [(h0, .inr (11, [.int (iI (th)), .long (lI (tra)), .ref h40, .int (iI (tn)), .int (iI (nx)), .int (iI (tk)), .int (iI (pl)), .int (iI (va)), .int (iI (fl)), .ref h41, .ref h42, .ref h43, .ref h44, .ref h45, .ref h46, .ref h47, .ref h48, .ref h49, .ref h50, .ref h51, .int (iI (tc)), .ref h52, .int (iI (km)), .int (iI (bI false)), .int (iI (ta)), .int (iI (le)), .int (iI (rm9)), .int (iI (rc9)), .int (iI (fa)), .int (iI (tr)), .int (iI (ro)), .int (iI (lo))])), (h43, .inl (cI, 12, .inl (aI sa))), (h46, .inl (cI, 4, .inl (aI wk9)))] → va_S A s.heap H locs → ∀ ls : Array Slot, lv_has ls 2 [(0, .ref h0), (1, .int (iI (i)))] → W p l e rmX11_fromNow s m args below meth c H locs 0 0 Q (F0 m 7 ls []) := by
    intro fuel_7
    induction fuel_7 with
    | zero => intro i wk9 hI9 hm9; exact absurd hm9 (Nat.not_lt_zero _)
    | succ fuel_7 ih_7 =>
      intro i wk9 hI_7 hm_7 H locs hP hD hS ls hl
      obtain ⟨hi1, hi2, hi3⟩ := hI_7
      refine lv_iload_n hx hb dX11_fromNow_7 rfl (lv_at hl 1 rfl) ?_
      refine lv_iconst (v := iI (4)) hx hb dX11_fromNow_8 rfl ?_
      refine j_icmp_ge (tgt := 30) hx hb (by omega) dX11_fromNow_9 (by decide) (fun c_9 => ?_) (fun c_9 => ?_)
      · rw [hQ]; exact jm_vret wk9 hx hb hr hlocks hS hP rfl (by (try dsimp only); exact fun j h1 h2 => hi3 j h1 (by omega)) dX11_fromNow_30
      · refine lv_aload_n hx hb dX11_fromNow_12 rfl (lv_at hl 0 rfl) ?_
        refine va_get (D := D) (ci := 11) (v := .ref h46) (C := RX11) (T := TX11) (N := 32) hx hb hts UX11 hown hK hP 0 rfl rfl 14 (by decide) L29 (fun _ h9 => h9) rfl dX11_fromNow_13 ?_
        refine lv_iload_n hx hb dX11_fromNow_16 rfl (lv_at hl 1 rfl) ?_
        refine lv_aload_n hx hb dX11_fromNow_17 rfl (lv_at hl 0 rfl) ?_
        refine va_get (D := D) (ci := 11) (v := .ref h43) (C := RX11) (T := TX11) (N := 32) hx hb hts UX11 hown hK hP 0 rfl rfl 11 (by decide) L19 (fun _ h9 => h9) rfl dX11_fromNow_18 ?_
        refine lv_iload_n hx hb dX11_fromNow_21 rfl (lv_at hl 1 rfl) ?_
        refine j_iald hx hb hK hP 1 0 rfl rfl (by omega) dX11_fromNow_22 ?_
        refine j_iast hx hb hK hP hD hS 2 0 rfl rfl (by omega) dX11_fromNow_23 (fun H locs hP hD hS => ?_)
        have hP : va_P D vwCl [(h0, .inr (11, [.int (iI (th)), .long (lI (tra)), .ref h40, .int (iI (tn)), .int (iI (nx)), .int (iI (tk)), .int (iI (pl)), .int (iI (va)), .int (iI (fl)), .ref h41, .ref h42, .ref h43, .ref h44, .ref h45, .ref h46, .ref h47, .ref h48, .ref h49, .ref h50, .ref h51, .int (iI (tc)), .ref h52, .int (iI (km)), .int (iI (bI false)), .int (iI (ta)), .int (iI (le)), .int (iI (rm9)), .int (iI (rc9)), .int (iI (fa)), .int (iI (tr)), .int (iI (ro)), .int (iI (lo))])), (h43, .inl (cI, 12, .inl (aI sa))), (h46, .inl (cI, 4, .inl (aI (upZ wk9 i (sa i)))))] H := hP
        have hD : va_D A [(h0, .inr (11, [.int (iI (th)), .long (lI (tra)), .ref h40, .int (iI (tn)), .int (iI (nx)), .int (iI (tk)), .int (iI (pl)), .int (iI (va)), .int (iI (fl)), .ref h41, .ref h42, .ref h43, .ref h44, .ref h45, .ref h46, .ref h47, .ref h48, .ref h49, .ref h50, .ref h51, .int (iI (tc)), .ref h52, .int (iI (km)), .int (iI (bI false)), .int (iI (ta)), .int (iI (le)), .int (iI (rm9)), .int (iI (rc9)), .int (iI (fa)), .int (iI (tr)), .int (iI (ro)), .int (iI (lo))])), (h43, .inl (cI, 12, .inl (aI sa))), (h46, .inl (cI, 4, .inl (aI (upZ wk9 i (sa i)))))] := hD
        refine lv_iinc (v := iI (i + 1)) (lv' := [(1, .int (iI (i + 1))), (0, .ref h0)]) hx hb dX11_fromNow_24 hl (k := 1) rfl (iI_add _ _) (by decide) rfl (fun ls hl => ?_)
        refine lv_goto (tgt := 7) hx hb dX11_fromNow_27 (by decide) ?_
        exact ih_7 ((i + 1)) ((upZ wk9 i (sa i))) (by exact ⟨by omega, by omega, fun j h1 h2 => by by_cases hj : j = i <;> first | (rw [hj, upZ_s]; done) | (rw [upZ_n hj]; exact hi3 j h1 (by omega))⟩) (by omega) H locs hP hD hS ls (lv_sub hl [1, 0] rfl)
  exact loop_7 _ 0 wk (by exact ⟨by omega, by omega, fun j h1 h2 => by omega⟩) (Nat.lt_succ_self _) H locs hP hD hS ls (lv_sub hl [1, 0] rfl)
theorem hsX11_cells : yX11_cells.cls ≠ "java/lang/invoke/MethodHandle" ∧ yX11_cells.cls ≠ "java/lang/invoke/VarHandle" ∧ (parseMethodDescriptor yX11_cells.desc).map (fun d => d.parameters.length) = some 0 := by decide +kernel
theorem hvX11_cells : yX11_cells.cls = RX11 ∧ yX11_cells.cls ≠ "java/lang/invoke/MethodHandle" ∧ yX11_cells.cls ≠ "java/lang/invoke/VarHandle" ∧ (parseMethodDescriptor yX11_cells.desc).map (fun d => d.parameters.length) = some 0 := ⟨rfl, hsX11_cells⟩
abbrev rmX11_startMany : Room := { frames := 1, cells := 0, slots := 0, locals := 20 }
set_option maxHeartbeats 4000000 in
set_option maxRecDepth 100000 in
theorem c_X11_startMany (l : Launch) (D : va_G) (cI cZ : ClassId) (z : jZT) (h0 h40 h41 h42 h43 h44 h45 h46 h47 h48 h49 h50 h51 h52 : Nat) (th tra tn nx tk pl va fl tc km ta le rm9 rc9 fa tr ro lo : Int) (td gd : Int → Int) (dr : Bool) (hW : 3 ≤ td 0 ∧ td 0 ≤ 16) (hH : 3 ≤ td 1 ∧ td 1 ≤ 16) (hg : ∀ j : Int, 0 ≤ j → j < 256 → 0 ≤ gd j ∧ gd j ≤ 2) : jRd l yX11_startMany wsX11_startMany rmX11_startMany [.ref h0] D cI cZ z [(h0, .inr (11, [.int (iI (th)), .long (lI (tra)), .ref h40, .int (iI (tn)), .int (iI (nx)), .int (iI (tk)), .int (iI (pl)), .int (iI (va)), .int (iI (fl)), .ref h41, .ref h42, .ref h43, .ref h44, .ref h45, .ref h46, .ref h47, .ref h48, .ref h49, .ref h50, .ref h51, .int (iI (tc)), .ref h52, .int (iI (km)), .int (iI (bI dr)), .int (iI (ta)), .int (iI (le)), .int (iI (rm9)), .int (iI (rc9)), .int (iI (fa)), .int (iI (tr)), .int (iI (ro)), .int (iI (lo))])), (h41, .inl (cI, 18, .inl (aI td))), (h42, .inl (cI, 512, .inl (aI gd)))] (some (.int (iI (8 * coN (td 0) (td 1) gd 0 (td 0 * td 1).toNat)))) := by
  refine jRd_of (cc := cX11_startMany) (n := 3) (ret := (some .int)) (by decide) rfl (Nat.le_of_ble_eq_true rfl) ?_
  intro p e s m below meth c A ls args Q hQ F hA hZ hP hK hD hS hl
  obtain ⟨hx, hb, hr, hml, hown, hts, hlocks⟩ := F
  have hown : s.vm.findClass RX11 = some m.cls := hown
  have hl : lv_has ls 3 [(0, .ref h0)] := hl
  have L16 := hts (.fieldLink RX11 16 "TinMouseModel" "grid" "[I") (by decide +kernel)
  have UX11 : ∀ w ∈ wsX110, w ∈ wsX11_startMany := fun w h => List.mem_cons_of_mem _ (List.mem_append_right _ h)
  have hwh := wh_rng hW hH
  refine lv_iconst (v := iI (0)) hx hb dX11_startMany_0 rfl ?_
  refine lv_istore_n (lv' := [(1, .int (iI (0))), (0, .ref h0)]) hx hb dX11_startMany_1 rfl hl (by decide) rfl (fun ls hl => ?_)
  refine lv_iconst (v := iI (0)) hx hb dX11_startMany_2 rfl ?_
  refine lv_istore_n (lv' := [(2, .int (iI (0))), (1, .int (iI (0))), (0, .ref h0)]) hx hb dX11_startMany_3 rfl hl (by decide) rfl (fun ls hl => ?_)
  have loop_4 : ∀ (fuel_4 : Nat) (n9 : Int) (c9 : Int) (n : Nat), (c9 = (n : Int) ∧ n ≤ (td 0 * td 1).toNat ∧ n9 = 8 * coN (td 0) (td 1) gd 0 n) → ((td 0 * td 1).toNat - n) < fuel_4 → ∀ ls : Array Slot, lv_has ls 3 [(0, .ref h0), (1, .int (iI (n9))), (2, .int (iI (c9)))] → W p l e rmX11_startMany s m args below meth c s.heap [] 0 0 Q (F0 m 4 ls []) := by
    intro fuel_4
    induction fuel_4 with
    | zero => intro n9 c9 n hI9 hm9; exact absurd hm9 (Nat.not_lt_zero _)
    | succ fuel_4 ih_4 =>
      intro n9 c9 n hI_4 hm_4 ls hl
      obtain ⟨hi1, hi2, hi3⟩ := hI_4
      have hcr := coN_rng (td 0) (td 1) gd 0 n
      refine lv_iload_n hx hb dX11_startMany_4 rfl (lv_at hl 2 rfl) ?_
      refine lv_aload_n hx hb dX11_startMany_5 rfl (lv_at hl 0 rfl) ?_
      refine j_rd (va_runV (As := []) (rest := [.int (iI (c9))]) ⟨hx, hb, hml, hown, hts⟩ (c_X11_cells l D cI cZ z h0 h40 h41 h42 h43 h44 h45 h46 h47 h48 h49 h50 h51 h52 th tra tn nx tk pl va fl tc km ta le rm9 rc9 fa tr ro lo td dr  s.heap.size) (cwV 0 hts gX11_startMany_X11_cells rfl rfl rfl hvX11_cells ⟨Nat.le_of_ble_eq_true rfl, Nat.le_of_ble_eq_true rfl⟩) (j_preV hP hD hK hS hZ hA [0, 1] rfl rfl 0 rfl rfl) rfl rfl hl.1 rfl (lv_room (Nat.le_of_ble_eq_true rfl)) dX11_startMany_6 ⟨Nat.zero_le _, Nat.zero_le _⟩) ?_
      refine j_icmp_ge (tgt := 36) hx hb (by omega) dX11_startMany_9 (by decide) (fun c_9 => ?_) (fun c_9 => ?_)
      · refine lv_iload_n hx hb dX11_startMany_36 rfl (lv_at hl 1 rfl) ?_
        rw [hQ]; exact jr_iret hx hb hr hlocks (jo_i (by rw [hi3, show n = (td 0 * td 1).toNat by omega])) dX11_startMany_37
      · have hgr := hg c9 (by omega) (by omega)
        refine lv_iload_n hx hb dX11_startMany_12 rfl (lv_at hl 1 rfl) ?_
        refine lv_aload_n hx hb dX11_startMany_13 rfl (lv_at hl 0 rfl) ?_
        refine va_get (D := D) (ci := 11) (v := .ref h42) (C := RX11) (T := TX11) (N := 32) hx hb hts UX11 hown hK hP 0 rfl rfl 10 (by decide) L16 (fun _ h9 => h9) rfl dX11_startMany_14 ?_
        refine lv_iload_n hx hb dX11_startMany_17 rfl (lv_at hl 2 rfl) ?_
        refine j_iald hx hb hK hP 2 0 rfl rfl (by omega) dX11_startMany_18 ?_
        obtain ⟨t_1, et_1⟩ : ∃ t : Int, t = if ¬ (gd c9) = 0 then 0 else 8 := ⟨_, rfl⟩
        have kt_1 : W p l e rmX11_startMany s m args below meth c s.heap [] 0 0 Q (F0 m 28 ls [.int (iI (t_1)), .int (iI (n9))]) := by
          refine j_iadd hx hb dX11_startMany_28 ?_
          refine lv_istore_n (lv' := [(1, .int (iI (n9 + t_1))), (0, .ref h0), (2, .int (iI (c9)))]) hx hb dX11_startMany_29 rfl hl (by decide) rfl (fun ls hl => ?_)
          refine lv_iinc (v := iI (c9 + 1)) (lv' := [(2, .int (iI (c9 + 1))), (1, .int (iI (n9 + t_1))), (0, .ref h0)]) hx hb dX11_startMany_30 hl (k := 2) rfl (iI_add _ _) (by decide) rfl (fun ls hl => ?_)
          refine lv_goto (tgt := 4) hx hb dX11_startMany_33 (by decide) ?_
          exact ih_4 ((n9 + t_1)) ((c9 + 1)) (n + 1) (by have hkd : kd (td 0) (td 1) gd (n : Int) = gd c9 := (by unfold kd; rw [if_pos (by omega), hi1]); exact ⟨by omega, by omega, by rw [coN, hkd]; omega⟩) (by omega) ls (lv_sub hl [2, 1, 0] rfl)
        refine j_if_ne (tgt := 27) hx hb (by omega) dX11_startMany_19 (by decide) (fun q_2 => ?_) (fun q_2 => ?_)
        · refine lv_iconst (v := iI (0)) hx hb dX11_startMany_27 rfl ?_
          (have q9 := kt_1; rw [et_1, if_pos q_2] at q9; exact q9)
        · refine lv_bipush (v := iI (8)) hx hb dX11_startMany_22 (by decide) ?_
          refine lv_goto (tgt := 28) hx hb dX11_startMany_24 (by decide) ?_
          (have q9 := kt_1; rw [et_1, if_neg (fun q => q q_2)] at q9; exact q9)
  exact loop_4 _ 0 0 0 (by exact ⟨rfl, by omega, rfl⟩) (Nat.lt_succ_self _) ls (lv_sub hl [2, 1, 0] rfl)
