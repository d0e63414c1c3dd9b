abbrev rmX11_lot : Room := { frames := 0, cells := 0, slots := 0, locals := 0 }
set_option maxHeartbeats 4000000 in
set_option maxRecDepth 100000 in
theorem c_X11_lot (l : Launch) (D : va_G) (cI cZ : ClassId) (z : jZT) (h0 h40 h41 h42 h43 h44 h45 h46 h47 h48 h49 h50 h51 h52 : Nat) (v th tra tn nx tk pl va fl tc km ta le rm9 rc9 fa tr ro lo : Int) (sa : Int → Int) (dr : Bool) : jMu (S := (Int → Int)) l yX11_lot wsX11_lot rmX11_lot [.ref h0, .int (iI (v))] D cI cZ z [(h0, .inr (11, [.int (iI (th)), .long (lI (tra)), .ref h40, .int (iI (tn)), .int (iI (nx)), .int (iI (tk)), .int (iI (pl)), .int (iI (va)), .int (iI (fl)), .ref h41, .ref h42, .ref h43, .ref h44, .ref h45, .ref h46, .ref h47, .ref h48, .ref h49, .ref h50, .ref h51, .int (iI (tc)), .ref h52, .int (iI (km)), .int (iI (bI dr)), .int (iI (ta)), .int (iI (le)), .int (iI (rm9)), .int (iI (rc9)), .int (iI (fa)), .int (iI (tr)), .int (iI (ro)), .int (iI (lo))])), (h43, .inl (cI, 12, .inl (aI sa)))] (fun u => some (.int (iI (sa 11)))) (fun u => u = upZ sa 11 v) (fun u => [(h0, .inr (11, [.int (iI (0)), .long (lI (tra)), .ref h40, .int (iI (tn)), .int (iI (nx)), .int (iI (tk)), .int (iI (pl)), .int (iI (va)), .int (iI (fl)), .ref h41, .ref h42, .ref h43, .ref h44, .ref h45, .ref h46, .ref h47, .ref h48, .ref h49, .ref h50, .ref h51, .int (iI (tc)), .ref h52, .int (iI (km)), .int (iI (bI dr)), .int (iI (ta)), .int (iI (le)), .int (iI (rm9)), .int (iI (rc9)), .int (iI (fa)), .int (iI (tr)), .int (iI (ro)), .int (iI (lo))])), (h43, .inl (cI, 12, .inl (aI u)))]) := by
  refine jMu_of (cc := cX11_lot) (n := 3) (ret := (some .int)) (by decide) rfl (Nat.le_of_ble_eq_true rfl) ?_
  intro p e s m below meth c A ls args Q hQ F hA hZ hP hK hD hS hl
  obtain ⟨hx, hb, hr, hml, hown, hts, hlocks⟩ := F
  have hown : s.vm.findClass RX11 = some m.cls := hown
  have hl : lv_has ls 3 [(0, .ref h0), (1, .int (iI (v)))] := hl
  have L56 := hts (.fieldLink RX11 56 "TinMouseModel" "thrown" "I") (by decide +kernel)
  have L19 := hts (.fieldLink RX11 19 "TinMouseModel" "s" "[I") (by decide +kernel)
  have UX11 : ∀ w ∈ wsX110, w ∈ wsX11_lot := fun w h => List.mem_cons_of_mem _ (List.mem_append_right _ h)
  refine lv_aload_n hx hb dX11_lot_0 rfl (lv_at hl 0 rfl) ?_
  refine lv_iconst (v := iI (0)) hx hb dX11_lot_1 rfl ?_
  refine va_put (D := D) (ci := 11) (v := .int (iI (0))) (ty := .int) (C := RX11) (T := TX11) (N := 32) hx hb hts UX11 tyX11 tyX11_ok nmX11 hown hK hP hD hS 0 rfl rfl 0 (by decide) L56 (fun _ h9 => h9) rfl rfl rfl rfl (Nat.le_of_ble_eq_true rfl) dX11_lot_2 (fun H locs hP hD hS => ?_)
  have hP : va_P D vwCl [(h0, .inr (11, [.int (iI (0)), .long (lI (tra)), .ref h40, .int (iI (tn)), .int (iI (nx)), .int (iI (tk)), .int (iI (pl)), .int (iI (va)), .int (iI (fl)), .ref h41, .ref h42, .ref h43, .ref h44, .ref h45, .ref h46, .ref h47, .ref h48, .ref h49, .ref h50, .ref h51, .int (iI (tc)), .ref h52, .int (iI (km)), .int (iI (bI dr)), .int (iI (ta)), .int (iI (le)), .int (iI (rm9)), .int (iI (rc9)), .int (iI (fa)), .int (iI (tr)), .int (iI (ro)), .int (iI (lo))])), (h43, .inl (cI, 12, .inl (aI sa)))] H := hP
  have hD : va_D A [(h0, .inr (11, [.int (iI (0)), .long (lI (tra)), .ref h40, .int (iI (tn)), .int (iI (nx)), .int (iI (tk)), .int (iI (pl)), .int (iI (va)), .int (iI (fl)), .ref h41, .ref h42, .ref h43, .ref h44, .ref h45, .ref h46, .ref h47, .ref h48, .ref h49, .ref h50, .ref h51, .int (iI (tc)), .ref h52, .int (iI (km)), .int (iI (bI dr)), .int (iI (ta)), .int (iI (le)), .int (iI (rm9)), .int (iI (rc9)), .int (iI (fa)), .int (iI (tr)), .int (iI (ro)), .int (iI (lo))])), (h43, .inl (cI, 12, .inl (aI sa)))] := hD
  refine lv_aload_n hx hb dX11_lot_5 rfl (lv_at hl 0 rfl) ?_
  refine va_get (D := D) (ci := 11) (v := .ref h43) (C := RX11) (T := TX11) (N := 32) hx hb hts UX11 hown hK hP 0 rfl rfl 11 (by decide) L19 (fun _ h9 => h9) rfl dX11_lot_6 ?_
  refine lv_bipush (v := iI (11)) hx hb dX11_lot_9 (by decide) ?_
  refine j_iald hx hb hK hP 1 0 rfl rfl (by omega) dX11_lot_11 ?_
  refine lv_istore_n (lv' := [(2, .int (iI (sa 11))), (0, .ref h0), (1, .int (iI (v)))]) hx hb dX11_lot_12 rfl hl (by decide) rfl (fun ls hl => ?_)
  refine lv_aload_n hx hb dX11_lot_13 rfl (lv_at hl 1 rfl) ?_
  refine va_get (D := D) (ci := 11) (v := .ref h43) (C := RX11) (T := TX11) (N := 32) hx hb hts UX11 hown hK hP 0 rfl rfl 11 (by decide) L19 (fun _ h9 => h9) rfl dX11_lot_14 ?_
  refine lv_bipush (v := iI (11)) hx hb dX11_lot_17 (by decide) ?_
  refine lv_iload_n hx hb dX11_lot_19 rfl (lv_at hl 2 rfl) ?_
  refine j_iast hx hb hK hP hD hS 1 0 rfl rfl (by omega) dX11_lot_20 (fun H locs hP hD hS => ?_)
  have hP : va_P D vwCl [(h0, .inr (11, [.int (iI (0)), .long (lI (tra)), .ref h40, .int (iI (tn)), .int (iI (nx)), .int (iI (tk)), .int (iI (pl)), .int (iI (va)), .int (iI (fl)), .ref h41, .ref h42, .ref h43, .ref h44, .ref h45, .ref h46, .ref h47, .ref h48, .ref h49, .ref h50, .ref h51, .int (iI (tc)), .ref h52, .int (iI (km)), .int (iI (bI dr)), .int (iI (ta)), .int (iI (le)), .int (iI (rm9)), .int (iI (rc9)), .int (iI (fa)), .int (iI (tr)), .int (iI (ro)), .int (iI (lo))])), (h43, .inl (cI, 12, .inl (aI (upZ sa 11 v))))] H := hP
  have hD : va_D A [(h0, .inr (11, [.int (iI (0)), .long (lI (tra)), .ref h40, .int (iI (tn)), .int (iI (nx)), .int (iI (tk)), .int (iI (pl)), .int (iI (va)), .int (iI (fl)), .ref h41, .ref h42, .ref h43, .ref h44, .ref h45, .ref h46, .ref h47, .ref h48, .ref h49, .ref h50, .ref h51, .int (iI (tc)), .ref h52, .int (iI (km)), .int (iI (bI dr)), .int (iI (ta)), .int (iI (le)), .int (iI (rm9)), .int (iI (rc9)), .int (iI (fa)), .int (iI (tr)), .int (iI (ro)), .int (iI (lo))])), (h43, .inl (cI, 12, .inl (aI (upZ sa 11 v))))] := hD
  refine lv_iload_n hx hb dX11_lot_21 rfl (lv_at hl 0 rfl) ?_
  rw [hQ]; exact jm_iret (upZ sa 11 v) hx hb hr hlocks hS hP rfl (by (try dsimp only); first | done | rfl) dX11_lot_22
abbrev rmX11_told : Room := { frames := 1, cells := 0, slots := 0, locals := 22 }
set_option maxHeartbeats 4000000 in
set_option maxRecDepth 100000 in
theorem c_X11_told (l : Launch) (D : va_G) (cI cZ : ClassId) (z : jZT) (h0 h40 h41 h42 h43 h44 h45 h46 h47 h48 h49 h50 h51 h52 : Nat) (w th tra tn nx tk pl va fl tc km ta le rm9 rc9 fa tr ro lo : Int) (td : Int → Int) (dr : Bool) (hw : -2147483648 ≤ w ∧ w < 2147483648) : jMu (S := Int) l yX11_told wsX11_told rmX11_told [.ref h0, .int (iI (w))] D cI cZ z [(h0, .inr (11, [.int (iI (th)), .long (lI (tra)), .ref h40, .int (iI (tn)), .int (iI (nx)), .int (iI (tk)), .int (iI (pl)), .int (iI (va)), .int (iI (fl)), .ref h41, .ref h42, .ref h43, .ref h44, .ref h45, .ref h46, .ref h47, .ref h48, .ref h49, .ref h50, .ref h51, .int (iI (tc)), .ref h52, .int (iI (km)), .int (iI (bI dr)), .int (iI (ta)), .int (iI (le)), .int (iI (rm9)), .int (iI (rc9)), .int (iI (fa)), .int (iI (tr)), .int (iI (ro)), .int (iI (lo))])), (h41, .inl (cI, 18, .inl (aI td)))] (fun u => some (.int (iI (u)))) (fun u => u = if 0 ≤ w ∧ w ≤ 8 then td w else -1) (fun u => [(h0, .inr (11, [.int (iI (0)), .long (lI (tra)), .ref h40, .int (iI (tn)), .int (iI (nx)), .int (iI (tk)), .int (iI (pl)), .int (iI (va)), .int (iI (fl)), .ref h41, .ref h42, .ref h43, .ref h44, .ref h45, .ref h46, .ref h47, .ref h48, .ref h49, .ref h50, .ref h51, .int (iI (tc)), .ref h52, .int (iI (km)), .int (iI (bI dr)), .int (iI (ta)), .int (iI (le)), .int (iI (rm9)), .int (iI (rc9)), .int (iI (fa)), .int (iI (tr)), .int (iI (ro)), .int (iI (lo))])), (h41, .inl (cI, 18, .inl (aI td)))]) := by
  refine jMu_of (cc := cX11_told) (n := 2) (ret := (some .int)) (by decide) rfl (Nat.le_of_ble_eq_true rfl) ?_
  intro p e s m below meth c A ls args Q hQ F hA hZ hP hK hD hS hl
  obtain ⟨hx, hb, hr, hml, hown, hts, hlocks⟩ := F
  have hown : s.vm.findClass RX11 = some m.cls := hown
  have hl : lv_has ls 2 [(0, .ref h0), (1, .int (iI (w)))] := hl
  have L56 := hts (.fieldLink RX11 56 "TinMouseModel" "thrown" "I") (by decide +kernel)
  have L13 := hts (.fieldLink RX11 13 "TinMouseModel" "told" "[I") (by decide +kernel)
  have UX11 : ∀ w ∈ wsX110, w ∈ wsX11_told := fun w h => List.mem_cons_of_mem _ (List.mem_append_right _ h)
  refine lv_aload_n hx hb dX11_told_0 rfl (lv_at hl 0 rfl) ?_
  refine lv_iconst (v := iI (0)) hx hb dX11_told_1 rfl ?_
  refine va_put (D := D) (ci := 11) (v := .int (iI (0))) (ty := .int) (C := RX11) (T := TX11) (N := 32) hx hb hts UX11 tyX11 tyX11_ok nmX11 hown hK hP hD hS 0 rfl rfl 0 (by decide) L56 (fun _ h9 => h9) rfl rfl rfl rfl (Nat.le_of_ble_eq_true rfl) dX11_told_2 (fun H locs hP hD hS => ?_)
  have hP : va_P D vwCl [(h0, .inr (11, [.int (iI (0)), .long (lI (tra)), .ref h40, .int (iI (tn)), .int (iI (nx)), .int (iI (tk)), .int (iI (pl)), .int (iI (va)), .int (iI (fl)), .ref h41, .ref h42, .ref h43, .ref h44, .ref h45, .ref h46, .ref h47, .ref h48, .ref h49, .ref h50, .ref h51, .int (iI (tc)), .ref h52, .int (iI (km)), .int (iI (bI dr)), .int (iI (ta)), .int (iI (le)), .int (iI (rm9)), .int (iI (rc9)), .int (iI (fa)), .int (iI (tr)), .int (iI (ro)), .int (iI (lo))])), (h41, .inl (cI, 18, .inl (aI td)))] H := hP
  have hD : va_D A [(h0, .inr (11, [.int (iI (0)), .long (lI (tra)), .ref h40, .int (iI (tn)), .int (iI (nx)), .int (iI (tk)), .int (iI (pl)), .int (iI (va)), .int (iI (fl)), .ref h41, .ref h42, .ref h43, .ref h44, .ref h45, .ref h46, .ref h47, .ref h48, .ref h49, .ref h50, .ref h51, .int (iI (tc)), .ref h52, .int (iI (km)), .int (iI (bI dr)), .int (iI (ta)), .int (iI (le)), .int (iI (rm9)), .int (iI (rc9)), .int (iI (fa)), .int (iI (tr)), .int (iI (ro)), .int (iI (lo))])), (h41, .inl (cI, 18, .inl (aI td)))] := hD
  refine lv_iload_n hx hb dX11_told_5 rfl (lv_at hl 1 rfl) ?_
  refine lv_iconst (v := iI (0)) hx hb dX11_told_6 rfl ?_
  refine lv_bipush (v := iI (8)) hx hb dX11_told_7 (by decide) ?_
  refine j_rd (va_runS (As := [.int (iI (w)), .int (iI (0)), .int (iI (8))]) (rest := []) ⟨hx, hb, hml, hown, hts⟩ (c_X11_in l D cI cZ z w 0 8 (by first | assumption | omega) (by first | assumption | omega) (by first | assumption | omega) H.size) (va_cwS 3 hts gX11_told_X11_in rfl rfl rfl hsX11_in ⟨Nat.le_of_ble_eq_true rfl, Nat.le_of_ble_eq_true rfl⟩) (j_preS hP hD hK hS hZ hA [] rfl rfl) rfl rfl hl.1 rfl (lv_room (Nat.le_of_ble_eq_true rfl)) dX11_told_9 ⟨Nat.zero_le _, Nat.zero_le _⟩) ?_
  refine j_ifeq_d (tgt := 24) hx hb dX11_told_12 (by decide) (fun c_12 => ?_) (fun c_12 => ?_)
  · refine lv_iconst (v := iI (-1)) hx hb dX11_told_24 rfl ?_
    rw [hQ]; exact jm_iret (-1) hx hb hr hlocks hS hP rfl (by (try dsimp only); first | (rw [if_pos (by omega)]; done) | (rw [if_neg (by omega)]; done)) dX11_told_25
  · refine lv_aload_n hx hb dX11_told_15 rfl (lv_at hl 0 rfl) ?_
    refine va_get (D := D) (ci := 11) (v := .ref h41) (C := RX11) (T := TX11) (N := 32) hx hb hts UX11 hown hK hP 0 rfl rfl 9 (by decide) L13 (fun _ h9 => h9) rfl dX11_told_16 ?_
    refine lv_iload_n hx hb dX11_told_19 rfl (lv_at hl 1 rfl) ?_
    refine j_iald hx hb hK hP 1 0 rfl rfl (by omega) dX11_told_20 ?_
    refine lv_goto (tgt := 25) hx hb dX11_told_21 (by decide) ?_
    rw [hQ]; exact jm_iret (td w) hx hb hr hlocks hS hP rfl (by (try dsimp only); first | (rw [if_pos (by omega)]; done) | (rw [if_neg (by omega)]; done)) dX11_told_25
abbrev rmX11_cell : Room := { frames := 2, cells := 0, slots := 0, locals := 44 }
set_option maxHeartbeats 4000000 in
set_option maxRecDepth 100000 in
theorem c_X11_cell (l : Launch) (D : va_G) (cI cZ : ClassId) (z : jZT) (h0 h40 h41 h42 h43 h44 h45 h46 h47 h48 h49 h50 h51 h52 : Nat) (x y th tra tn nx tk pl va fl tc km ta le rm9 rc9 fa tr ro lo : Int) (td gd : Int → Int) (dr : Bool) (hW : 3 ≤ td 0 ∧ td 0 ≤ 16) (hH : 3 ≤ td 1 ∧ td 1 ≤ 16) (hg : ∀ j : Int, 0 ≤ j → j < 256 → 0 ≤ gd j ∧ gd j ≤ 2) (hx : -2147483648 ≤ x ∧ x < 2147483648) (hy : -2147483648 ≤ y ∧ y < 2147483648) : jMu (S := Int) l yX11_cell wsX11_cell rmX11_cell [.ref h0, .int (iI (x)), .int (iI (y))] D cI cZ z [(h0, .inr (11, [.int (iI (th)), .long (lI (tra)), .ref h40, .int (iI (tn)), .int (iI (nx)), .int (iI (tk)), .int (iI (pl)), .int (iI (va)), .int (iI (fl)), .ref h41, .ref h42, .ref h43, .ref h44, .ref h45, .ref h46, .ref h47, .ref h48, .ref h49, .ref h50, .ref h51, .int (iI (tc)), .ref h52, .int (iI (km)), .int (iI (bI dr)), .int (iI (ta)), .int (iI (le)), .int (iI (rm9)), .int (iI (rc9)), .int (iI (fa)), .int (iI (tr)), .int (iI (ro)), .int (iI (lo))])), (h41, .inl (cI, 18, .inl (aI td))), (h42, .inl (cI, 512, .inl (aI gd)))] (fun u => some (.int (iI (u)))) (fun u => u = if mA (td 0) (td 1) gd x y = -5 then -1 else mA (td 0) (td 1) gd x y) (fun u => [(h0, .inr (11, [.int (iI (0)), .long (lI (tra)), .ref h40, .int (iI (tn)), .int (iI (nx)), .int (iI (tk)), .int (iI (pl)), .int (iI (va)), .int (iI (fl)), .ref h41, .ref h42, .ref h43, .ref h44, .ref h45, .ref h46, .ref h47, .ref h48, .ref h49, .ref h50, .ref h51, .int (iI (tc)), .ref h52, .int (iI (km)), .int (iI (bI dr)), .int (iI (ta)), .int (iI (le)), .int (iI (rm9)), .int (iI (rc9)), .int (iI (fa)), .int (iI (tr)), .int (iI (ro)), .int (iI (lo))])), (h41, .inl (cI, 18, .inl (aI td))), (h42, .inl (cI, 512, .inl (aI gd)))]) := by
  refine jMu_of (cc := cX11_cell) (n := 3) (ret := (some .int)) (by decide) rfl (Nat.le_of_ble_eq_true rfl) ?_
  intro p e s m below meth c A ls args Q hQ F hA hZ hP hK hD hS hl
  obtain ⟨hx, hb, hr, hml, hown, hts, hlocks⟩ := F
  have hown : s.vm.findClass RX11 = some m.cls := hown
  have hl : lv_has ls 3 [(0, .ref h0), (1, .int (iI (x))), (2, .int (iI (y)))] := hl
  have L56 := hts (.fieldLink RX11 56 "TinMouseModel" "thrown" "I") (by decide +kernel)
  have UX11 : ∀ w ∈ wsX110, w ∈ wsX11_cell := fun w h => List.mem_cons_of_mem _ (List.mem_append_right _ h)
  have har := mA_rng hW hH hg x y
  refine lv_aload_n hx hb dX11_cell_0 rfl (lv_at hl 0 rfl) ?_
  refine lv_iconst (v := iI (0)) hx hb dX11_cell_1 rfl ?_
  refine va_put (D := D) (ci := 11) (v := .int (iI (0))) (ty := .int) (C := RX11) (T := TX11) (N := 32) hx hb hts UX11 tyX11 tyX11_ok nmX11 hown hK hP hD hS 0 rfl rfl 0 (by decide) L56 (fun _ h9 => h9) rfl rfl rfl rfl (Nat.le_of_ble_eq_true rfl) dX11_cell_2 (fun H locs hP hD hS => ?_)
  have hP : va_P D vwCl [(h0, .inr (11, [.int (iI (0)), .long (lI (tra)), .ref h40, .int (iI (tn)), .int (iI (nx)), .int (iI (tk)), .int (iI (pl)), .int (iI (va)), .int (iI (fl)), .ref h41, .ref h42, .ref h43, .ref h44, .ref h45, .ref h46, .ref h47, .ref h48, .ref h49, .ref h50, .ref h51, .int (iI (tc)), .ref h52, .int (iI (km)), .int (iI (bI dr)), .int (iI (ta)), .int (iI (le)), .int (iI (rm9)), .int (iI (rc9)), .int (iI (fa)), .int (iI (tr)), .int (iI (ro)), .int (iI (lo))])), (h41, .inl (cI, 18, .inl (aI td))), (h42, .inl (cI, 512, .inl (aI gd)))] H := hP
  have hD : va_D A [(h0, .inr (11, [.int (iI (0)), .long (lI (tra)), .ref h40, .int (iI (tn)), .int (iI (nx)), .int (iI (tk)), .int (iI (pl)), .int (iI (va)), .int (iI (fl)), .ref h41, .ref h42, .ref h43, .ref h44, .ref h45, .ref h46, .ref h47, .ref h48, .ref h49, .ref h50, .ref h51, .int (iI (tc)), .ref h52, .int (iI (km)), .int (iI (bI dr)), .int (iI (ta)), .int (iI (le)), .int (iI (rm9)), .int (iI (rc9)), .int (iI (fa)), .int (iI (tr)), .int (iI (ro)), .int (iI (lo))])), (h41, .inl (cI, 18, .inl (aI td))), (h42, .inl (cI, 512, .inl (aI gd)))] := hD
  refine lv_aload_n hx hb dX11_cell_5 rfl (lv_at hl 0 rfl) ?_
  refine lv_iload_n hx hb dX11_cell_6 rfl (lv_at hl 1 rfl) ?_
  refine lv_iload_n hx hb dX11_cell_7 rfl (lv_at hl 2 rfl) ?_
  refine j_rd (va_runV (As := [.int (iI (x)), .int (iI (y))]) (rest := []) ⟨hx, hb, hml, hown, hts⟩ (c_X11_at l D cI cZ z h0 h40 h41 h42 h43 h44 h45 h46 h47 h48 h49 h50 h51 h52 x y 0 tra tn nx tk pl va fl tc km ta le rm9 rc9 fa tr ro lo td gd dr (by first | assumption | omega) (by first | assumption | omega) (by first | assumption | omega) (by first | assumption | omega) (by first | assumption | omega) H.size) (cwV 2 hts gX11_cell_X11_at rfl rfl rfl hvX11_at ⟨Nat.le_of_ble_eq_true rfl, Nat.le_of_ble_eq_true rfl⟩) (j_preV hP hD hK hS hZ hA [0, 1, 2] rfl rfl 0 rfl rfl) rfl rfl hl.1 rfl (lv_room (Nat.le_of_ble_eq_true rfl)) dX11_cell_8 ⟨Nat.zero_le _, Nat.zero_le _⟩) ?_
  refine lv_bipush (v := iI (-5)) hx hb dX11_cell_11 (by decide) ?_
  refine j_icmp_ne (tgt := 20) hx hb (by omega) dX11_cell_13 (by decide) (fun c_13 => ?_) (fun c_13 => ?_)
  · refine lv_aload_n hx hb dX11_cell_20 rfl (lv_at hl 0 rfl) ?_
    refine lv_iload_n hx hb dX11_cell_21 rfl (lv_at hl 1 rfl) ?_
    refine lv_iload_n hx hb dX11_cell_22 rfl (lv_at hl 2 rfl) ?_
    refine j_rd (va_runV (As := [.int (iI (x)), .int (iI (y))]) (rest := []) ⟨hx, hb, hml, hown, hts⟩ (c_X11_at l D cI cZ z h0 h40 h41 h42 h43 h44 h45 h46 h47 h48 h49 h50 h51 h52 x y 0 tra tn nx tk pl va fl tc km ta le rm9 rc9 fa tr ro lo td gd dr (by first | assumption | omega) (by first | assumption | omega) (by first | assumption | omega) (by first | assumption | omega) (by first | assumption | omega) H.size) (cwV 2 hts gX11_cell_X11_at rfl rfl rfl hvX11_at ⟨Nat.le_of_ble_eq_true rfl, Nat.le_of_ble_eq_true rfl⟩) (j_preV hP hD hK hS hZ hA [0, 1, 2] rfl rfl 0 rfl rfl) rfl rfl hl.1 rfl (lv_room (Nat.le_of_ble_eq_true rfl)) dX11_cell_23 ⟨Nat.zero_le _, Nat.zero_le _⟩) ?_
    rw [hQ]; exact jm_iret (mA (td 0) (td 1) gd x y) hx hb hr hlocks hS hP rfl (by (try dsimp only); first | (rw [if_pos (by omega)]; done) | (rw [if_neg (by omega)]; done)) dX11_cell_26
  · refine lv_iconst (v := iI (-1)) hx hb dX11_cell_16 rfl ?_
    refine lv_goto (tgt := 26) hx hb dX11_cell_17 (by decide) ?_
    rw [hQ]; exact jm_iret (-1) hx hb hr hlocks hS hP rfl (by (try dsimp only); first | (rw [if_pos (by omega)]; done) | (rw [if_neg (by omega)]; done)) dX11_cell_26
abbrev rmX11_isStart : Room := { frames := 2, cells := 0, slots := 0, locals := 44 }
set_option maxHeartbeats 4000000 in
set_option maxRecDepth 100000 in
theorem c_X11_isStart (l : Launch) (D : va_G) (cI cZ : ClassId) (z : jZT) (h0 h40 h41 h42 h43 h44 h45 h46 h47 h48 h49 h50 h51 h52 : Nat) (x y d th tra tn nx tk pl va fl tc km ta le rm9 rc9 fa tr ro lo : Int) (td gd : Int → Int) (dr : Bool) (hW : 3 ≤ td 0 ∧ td 0 ≤ 16) (hH : 3 ≤ td 1 ∧ td 1 ≤ 16) (hg : ∀ j : Int, 0 ≤ j → j < 256 → 0 ≤ gd j ∧ gd j ≤ 2) (hx : -2147483648 ≤ x ∧ x < 2147483648) (hy : -2147483648 ≤ y ∧ y < 2147483648) (hd : -2147483648 ≤ d ∧ d < 2147483648) : jRd l yX11_isStart wsX11_isStart rmX11_isStart [.ref h0, .int (iI (x)), .int (iI (y)), .int (iI (d))] D cI cZ z [(h0, .inr (11, [.int (iI (th)), .long (lI (tra)), .ref h40, .int (iI (tn)), .int (iI (nx)), .int (iI (tk)), .int (iI (pl)), .int (iI (va)), .int (iI (fl)), .ref h41, .ref h42, .ref h43, .ref h44, .ref h45, .ref h46, .ref h47, .ref h48, .ref h49, .ref h50, .ref h51, .int (iI (tc)), .ref h52, .int (iI (km)), .int (iI (bI dr)), .int (iI (ta)), .int (iI (le)), .int (iI (rm9)), .int (iI (rc9)), .int (iI (fa)), .int (iI (tr)), .int (iI (ro)), .int (iI (lo))])), (h41, .inl (cI, 18, .inl (aI td))), (h42, .inl (cI, 512, .inl (aI gd)))] (some (.int (iI (bI (decide (mA (td 0) (td 1) gd x y = 0 ∧ 0 ≤ d ∧ d ≤ 7)))))) := by
  refine jRd_of (cc := cX11_isStart) (n := 4) (ret := (some .boolean)) (by decide) rfl (Nat.le_of_ble_eq_true rfl) ?_
  intro p e s m below meth c A ls args Q hQ F hA hZ hP hK hD hS hl
  obtain ⟨hx, hb, hr, hml, hown, hts, hlocks⟩ := F
  have hown : s.vm.findClass RX11 = some m.cls := hown
  have hl : lv_has ls 4 [(0, .ref h0), (1, .int (iI (x))), (2, .int (iI (y))), (3, .int (iI (d)))] := hl
  have har := mA_rng hW hH hg x y
  refine lv_aload_n hx hb dX11_isStart_0 rfl (lv_at hl 0 rfl) ?_
  refine lv_iload_n hx hb dX11_isStart_1 rfl (lv_at hl 1 rfl) ?_
  refine lv_iload_n hx hb dX11_isStart_2 rfl (lv_at hl 2 rfl) ?_
  refine j_rd (va_runV (As := [.int (iI (x)), .int (iI (y))]) (rest := []) ⟨hx, hb, hml, hown, hts⟩ (c_X11_at l D cI cZ z h0 h40 h41 h42 h43 h44 h45 h46 h47 h48 h49 h50 h51 h52 x y th tra tn nx tk pl va fl tc km ta le rm9 rc9 fa tr ro lo td gd dr (by first | assumption | omega) (by first | assumption | omega) (by first | assumption | omega) (by first | assumption | omega) (by first | assumption | omega) s.heap.size) (cwV 2 hts gX11_isStart_X11_at rfl rfl rfl hvX11_at ⟨Nat.le_of_ble_eq_true rfl, Nat.le_of_ble_eq_true rfl⟩) (j_preV hP hD hK hS hZ hA [0, 1, 2] rfl rfl 0 rfl rfl) rfl rfl hl.1 rfl (lv_room (Nat.le_of_ble_eq_true rfl)) dX11_isStart_3 ⟨Nat.zero_le _, Nat.zero_le _⟩) ?_
  refine j_if_ne (tgt := 23) hx hb (by omega) dX11_isStart_6 (by decide) (fun c_6 => ?_) (fun c_6 => ?_)
  · refine lv_iconst (v := iI (0)) hx hb dX11_isStart_23 rfl ?_
    rw [hQ]; exact jr_zret hx hb hr hlocks jn_0 (jo_i (by first | (rw [decide_eq_true (by omega)]; rfl) | (rw [decide_eq_false (by omega)]; rfl))) dX11_isStart_24
  · refine lv_iload_n hx hb dX11_isStart_9 rfl (lv_at hl 3 rfl) ?_
    refine lv_iconst (v := iI (0)) hx hb dX11_isStart_10 rfl ?_
    refine lv_bipush (v := iI (7)) hx hb dX11_isStart_11 (by decide) ?_
    refine j_rd (va_runS (As := [.int (iI (d)), .int (iI (0)), .int (iI (7))]) (rest := []) ⟨hx, hb, hml, hown, hts⟩ (c_X11_in l D cI cZ z d 0 7 (by first | assumption | omega) (by first | assumption | omega) (by first | assumption | omega) s.heap.size) (va_cwS 3 hts gX11_isStart_X11_in rfl rfl rfl hsX11_in ⟨Nat.le_of_ble_eq_true rfl, Nat.le_of_ble_eq_true rfl⟩) (j_preS hP hD hK hS hZ hA [] rfl rfl) rfl rfl hl.1 rfl (lv_room (Nat.le_of_ble_eq_true rfl)) dX11_isStart_13 ⟨Nat.zero_le _, Nat.zero_le _⟩) ?_
    refine j_ifeq_d (tgt := 23) hx hb dX11_isStart_16 (by decide) (fun c_16 => ?_) (fun c_16 => ?_)
    · refine lv_iconst (v := iI (0)) hx hb dX11_isStart_23 rfl ?_
      rw [hQ]; exact jr_zret hx hb hr hlocks jn_0 (jo_i (by first | (rw [decide_eq_true (by omega)]; rfl) | (rw [decide_eq_false (by omega)]; rfl))) dX11_isStart_24
    · refine lv_iconst (v := iI (1)) hx hb dX11_isStart_19 rfl ?_
      refine lv_goto (tgt := 24) hx hb dX11_isStart_20 (by decide) ?_
      rw [hQ]; exact jr_zret hx hb hr hlocks jn_1 (jo_i (by first | (rw [decide_eq_true (by omega)]; rfl) | (rw [decide_eq_false (by omega)]; rfl))) dX11_isStart_24
