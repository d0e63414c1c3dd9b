abbrev rmX11_state : Room := { frames := 3, cells := 0, slots := 0, locals := 67 }
set_option maxHeartbeats 4000000 in
set_option maxRecDepth 100000 in
theorem c_X11_state (l : Launch) (D : va_G) (cI cZ : ClassId) (z : jZT) (h0 h40 h41 h42 h43 h44 h45 h46 h47 h48 h49 h50 h51 h52 : Nat) (th tra tn nx tk pl va fl tc km ta le rm9 rc9 fa tr ro lo : Int) (td gd sa : Int → Int) (dr : Bool) (hW : 3 ≤ td 0 ∧ td 0 ≤ 16) (hH : 3 ≤ td 1 ∧ td 1 ≤ 16) (hg : ∀ j : Int, 0 ≤ j → j < 256 → 0 ≤ gd j ∧ gd j ≤ 2) (hsr : (-40 ≤ sa 0 ∧ sa 0 < 40) ∧ (-40 ≤ sa 1 ∧ sa 1 < 40) ∧ (0 ≤ sa 4 ∧ sa 4 < 1000)) : jRd l yX11_state wsX11_state rmX11_state [.ref h0] D cI cZ z [(h0, .inr (11, [.int (iI (th)), .long (lI (tra)), .ref h40, .int (iI (tn)), .int (iI (nx)), .int (iI (tk)), .int (iI (pl)), .int (iI (va)), .int (iI (fl)), .ref h41, .ref h42, .ref h43, .ref h44, .ref h45, .ref h46, .ref h47, .ref h48, .ref h49, .ref h50, .ref h51, .int (iI (tc)), .ref h52, .int (iI (km)), .int (iI (bI dr)), .int (iI (ta)), .int (iI (le)), .int (iI (rm9)), .int (iI (rc9)), .int (iI (fa)), .int (iI (tr)), .int (iI (ro)), .int (iI (lo))])), (h41, .inl (cI, 18, .inl (aI td))), (h42, .inl (cI, 512, .inl (aI gd))), (h43, .inl (cI, 12, .inl (aI sa)))] (some (.int (iI ((mSt (td 0) (td 1) gd (sa 0) (sa 1) (sa 4)))))) := by
  refine jRd_of (cc := cX11_state) (n := 1) (ret := (some .int)) (by decide) rfl (Nat.le_of_ble_eq_true rfl) ?_
  intro p e s m below meth c A ls args Q hQ F hA hZ hP hK hD hS hl
  obtain ⟨hx, hb, hr, hml, hown, hts, hlocks⟩ := F
  have hown : s.vm.findClass RX11 = some m.cls := hown
  have hl : lv_has ls 1 [(0, .ref h0)] := hl
  have L19 := hts (.fieldLink RX11 19 "TinMouseModel" "s" "[I") (by decide +kernel)
  have UX11 : ∀ w ∈ wsX110, w ∈ wsX11_state := fun w h => List.mem_cons_of_mem _ (List.mem_append_right _ h)
  refine lv_aload_n hx hb dX11_state_0 rfl (lv_at hl 0 rfl) ?_
  refine lv_aload_n hx hb dX11_state_1 rfl (lv_at hl 0 rfl) ?_
  refine va_get (D := D) (ci := 11) (v := .ref h43) (C := RX11) (T := TX11) (N := 32) hx hb hts UX11 hown hK hP 0 rfl rfl 11 (by decide) L19 (fun _ h9 => h9) rfl dX11_state_2 ?_
  refine lv_iconst (v := iI (0)) hx hb dX11_state_5 rfl ?_
  refine j_iald hx hb hK hP 3 0 rfl rfl (by omega) dX11_state_6 ?_
  refine lv_aload_n hx hb dX11_state_7 rfl (lv_at hl 0 rfl) ?_
  refine va_get (D := D) (ci := 11) (v := .ref h43) (C := RX11) (T := TX11) (N := 32) hx hb hts UX11 hown hK hP 0 rfl rfl 11 (by decide) L19 (fun _ h9 => h9) rfl dX11_state_8 ?_
  refine lv_iconst (v := iI (1)) hx hb dX11_state_11 rfl ?_
  refine j_iald hx hb hK hP 3 0 rfl rfl (by omega) dX11_state_12 ?_
  refine j_rd (va_runV (As := [.int (iI (sa 0)), .int (iI (sa 1))]) (rest := []) ⟨hx, hb, hml, hown, hts⟩ (c_X11_isWood l D cI cZ z h0 h40 h41 h42 h43 h44 h45 h46 h47 h48 h49 h50 h51 h52 (sa 0) (sa 1) th tra tn nx tk pl va fl tc km ta le rm9 rc9 fa tr ro lo td gd dr (by first | assumption | omega) (by first | assumption | omega) (by first | assumption | omega) (by first | assumption | omega) (by first | assumption | omega) s.heap.size) (cwV 2 hts gX11_state_X11_isWood rfl rfl rfl hvX11_isWood ⟨Nat.le_of_ble_eq_true rfl, Nat.le_of_ble_eq_true rfl⟩) (j_preV hP hD hK hS hZ hA [0, 1, 2] rfl rfl 0 rfl rfl) rfl rfl hl.1 rfl (lv_room (Nat.le_of_ble_eq_true rfl)) dX11_state_13 ⟨Nat.zero_le _, Nat.zero_le _⟩) ?_
  refine j_ifne_b (tgt := 23) hx hb dX11_state_16 (by decide) (fun c_16 => ?_) (fun c_16 => ?_)
  · refine lv_aload_n hx hb dX11_state_23 rfl (lv_at hl 0 rfl) ?_
    refine va_get (D := D) (ci := 11) (v := .ref h43) (C := RX11) (T := TX11) (N := 32) hx hb hts UX11 hown hK hP 0 rfl rfl 11 (by decide) L19 (fun _ h9 => h9) rfl dX11_state_24 ?_
    refine lv_iconst (v := iI (4)) hx hb dX11_state_27 rfl ?_
    refine j_iald hx hb hK hP 3 0 rfl rfl (by omega) dX11_state_28 ?_
    refine j_if_ne (tgt := 36) hx hb (by omega) dX11_state_29 (by decide) (fun c_29 => ?_) (fun c_29 => ?_)
    · refine lv_iconst (v := iI (0)) hx hb dX11_state_36 rfl ?_
      rw [hQ]; exact jr_iret hx hb hr hlocks (jo_i (by unfold mSt; first | (rw [if_pos (by first | exact c_16 | exact Bool.eq_false_iff.mpr c_16)]; done) | (rw [if_neg (by rw [c_16]; decide)]; first | (rw [if_pos (by omega)]; done) | (rw [if_neg (by omega)]; done)))) dX11_state_37
    · refine lv_iconst (v := iI (1)) hx hb dX11_state_32 rfl ?_
      refine lv_goto (tgt := 37) hx hb dX11_state_33 (by decide) ?_
      rw [hQ]; exact jr_iret hx hb hr hlocks (jo_i (by unfold mSt; first | (rw [if_pos (by first | exact c_16 | exact Bool.eq_false_iff.mpr c_16)]; done) | (rw [if_neg (by rw [c_16]; decide)]; first | (rw [if_pos (by omega)]; done) | (rw [if_neg (by omega)]; done)))) dX11_state_37
  · refine lv_iconst (v := iI (2)) hx hb dX11_state_19 rfl ?_
    refine lv_goto (tgt := 37) hx hb dX11_state_20 (by decide) ?_
    rw [hQ]; exact jr_iret hx hb hr hlocks (jo_i (by unfold mSt; first | (rw [if_pos (by first | exact c_16 | exact Bool.eq_false_iff.mpr c_16)]; done) | (rw [if_neg (by rw [c_16]; decide)]; first | (rw [if_pos (by omega)]; done) | (rw [if_neg (by omega)]; done)))) dX11_state_37
abbrev rmX11_clear : Room := { frames := 0, cells := 0, slots := 0, locals := 0 }
set_option maxHeartbeats 4000000 in
set_option maxRecDepth 100000 in
theorem c_X11_clear (l : Launch) (D : va_G) (cI cZ : ClassId) (z : jZT) (h0 h40 h41 h42 h43 h44 h45 h46 h47 h48 h49 h50 h51 h52 : Nat) (th tra tn nx tk pl va fl tc km ta le rm9 rc9 fa tr ro lo : Int) (dr : Bool) : jMu (S := Unit) l yX11_clear wsX11_clear rmX11_clear [.ref h0] D cI cZ z [(h0, .inr (11, [.int (iI (th)), .long (lI (tra)), .ref h40, .int (iI (tn)), .int (iI (nx)), .int (iI (tk)), .int (iI (pl)), .int (iI (va)), .int (iI (fl)), .ref h41, .ref h42, .ref h43, .ref h44, .ref h45, .ref h46, .ref h47, .ref h48, .ref h49, .ref h50, .ref h51, .int (iI (tc)), .ref h52, .int (iI (km)), .int (iI (bI dr)), .int (iI (ta)), .int (iI (le)), .int (iI (rm9)), .int (iI (rc9)), .int (iI (fa)), .int (iI (tr)), .int (iI (ro)), .int (iI (lo))]))] (fun u => some (.int (iI (tn)))) (fun u => True) (fun u => [(h0, .inr (11, [.int (iI (0)), .long (lI (tra)), .ref h40, .int (iI (0)), .int (iI (nx)), .int (iI (tk)), .int (iI (pl)), .int (iI (va)), .int (iI (fl)), .ref h41, .ref h42, .ref h43, .ref h44, .ref h45, .ref h46, .ref h47, .ref h48, .ref h49, .ref h50, .ref h51, .int (iI (tc)), .ref h52, .int (iI (km)), .int (iI (bI dr)), .int (iI (ta)), .int (iI (le)), .int (iI (rm9)), .int (iI (rc9)), .int (iI (fa)), .int (iI (tr)), .int (iI (ro)), .int (iI (lo))]))]) := by
  refine jMu_of (cc := cX11_clear) (n := 2) (ret := (some .int)) (by decide) rfl (Nat.le_of_ble_eq_true rfl) ?_
  intro p e s m below meth c A ls args Q hQ F hA hZ hP hK hD hS hl
  obtain ⟨hx, hb, hr, hml, hown, hts, hlocks⟩ := F
  have hown : s.vm.findClass RX11 = some m.cls := hown
  have hl : lv_has ls 2 [(0, .ref h0)] := hl
  have L56 := hts (.fieldLink RX11 56 "TinMouseModel" "thrown" "I") (by decide +kernel)
  have L64 := hts (.fieldLink RX11 64 "TinMouseModel" "typed" "I") (by decide +kernel)
  have UX11 : ∀ w ∈ wsX110, w ∈ wsX11_clear := fun w h => List.mem_cons_of_mem _ (List.mem_append_right _ h)
  refine lv_aload_n hx hb dX11_clear_0 rfl (lv_at hl 0 rfl) ?_
  refine lv_iconst (v := iI (0)) hx hb dX11_clear_1 rfl ?_
  refine va_put (D := D) (ci := 11) (v := .int (iI (0))) (ty := .int) (C := RX11) (T := TX11) (N := 32) hx hb hts UX11 tyX11 tyX11_ok nmX11 hown hK hP hD hS 0 rfl rfl 0 (by decide) L56 (fun _ h9 => h9) rfl rfl rfl rfl (Nat.le_of_ble_eq_true rfl) dX11_clear_2 (fun H locs hP hD hS => ?_)
  have hP : va_P D vwCl [(h0, .inr (11, [.int (iI (0)), .long (lI (tra)), .ref h40, .int (iI (tn)), .int (iI (nx)), .int (iI (tk)), .int (iI (pl)), .int (iI (va)), .int (iI (fl)), .ref h41, .ref h42, .ref h43, .ref h44, .ref h45, .ref h46, .ref h47, .ref h48, .ref h49, .ref h50, .ref h51, .int (iI (tc)), .ref h52, .int (iI (km)), .int (iI (bI dr)), .int (iI (ta)), .int (iI (le)), .int (iI (rm9)), .int (iI (rc9)), .int (iI (fa)), .int (iI (tr)), .int (iI (ro)), .int (iI (lo))]))] H := hP
  have hD : va_D A [(h0, .inr (11, [.int (iI (0)), .long (lI (tra)), .ref h40, .int (iI (tn)), .int (iI (nx)), .int (iI (tk)), .int (iI (pl)), .int (iI (va)), .int (iI (fl)), .ref h41, .ref h42, .ref h43, .ref h44, .ref h45, .ref h46, .ref h47, .ref h48, .ref h49, .ref h50, .ref h51, .int (iI (tc)), .ref h52, .int (iI (km)), .int (iI (bI dr)), .int (iI (ta)), .int (iI (le)), .int (iI (rm9)), .int (iI (rc9)), .int (iI (fa)), .int (iI (tr)), .int (iI (ro)), .int (iI (lo))]))] := hD
  refine lv_aload_n hx hb dX11_clear_5 rfl (lv_at hl 0 rfl) ?_
  refine va_get (D := D) (ci := 11) (v := .int (iI (tn))) (C := RX11) (T := TX11) (N := 32) hx hb hts UX11 hown hK hP 0 rfl rfl 3 (by decide) L64 (fun _ h9 => h9) rfl dX11_clear_6 ?_
  refine lv_istore_n (lv' := [(1, .int (iI (tn))), (0, .ref h0)]) hx hb dX11_clear_9 rfl hl (by decide) rfl (fun ls hl => ?_)
  refine lv_aload_n hx hb dX11_clear_10 rfl (lv_at hl 1 rfl) ?_
  refine lv_iconst (v := iI (0)) hx hb dX11_clear_11 rfl ?_
  refine va_put (D := D) (ci := 11) (v := .int (iI (0))) (ty := .int) (C := RX11) (T := TX11) (N := 32) hx hb hts UX11 tyX11 tyX11_ok nmX11 hown hK hP hD hS 0 rfl rfl 3 (by decide) L64 (fun _ h9 => h9) rfl rfl rfl rfl (Nat.le_of_ble_eq_true rfl) dX11_clear_12 (fun H locs hP hD hS => ?_)
  have hP : va_P D vwCl [(h0, .inr (11, [.int (iI (0)), .long (lI (tra)), .ref h40, .int (iI (0)), .int (iI (nx)), .int (iI (tk)), .int (iI (pl)), .int (iI (va)), .int (iI (fl)), .ref h41, .ref h42, .ref h43, .ref h44, .ref h45, .ref h46, .ref h47, .ref h48, .ref h49, .ref h50, .ref h51, .int (iI (tc)), .ref h52, .int (iI (km)), .int (iI (bI dr)), .int (iI (ta)), .int (iI (le)), .int (iI (rm9)), .int (iI (rc9)), .int (iI (fa)), .int (iI (tr)), .int (iI (ro)), .int (iI (lo))]))] H := hP
  have hD : va_D A [(h0, .inr (11, [.int (iI (0)), .long (lI (tra)), .ref h40, .int (iI (0)), .int (iI (nx)), .int (iI (tk)), .int (iI (pl)), .int (iI (va)), .int (iI (fl)), .ref h41, .ref h42, .ref h43, .ref h44, .ref h45, .ref h46, .ref h47, .ref h48, .ref h49, .ref h50, .ref h51, .int (iI (tc)), .ref h52, .int (iI (km)), .int (iI (bI dr)), .int (iI (ta)), .int (iI (le)), .int (iI (rm9)), .int (iI (rc9)), .int (iI (fa)), .int (iI (tr)), .int (iI (ro)), .int (iI (lo))]))] := hD
  refine lv_iload_n hx hb dX11_clear_15 rfl (lv_at hl 0 rfl) ?_
  rw [hQ]; exact jm_iret () hx hb hr hlocks hS hP rfl trivial dX11_clear_16
abbrev rmX11_wipe : Room := { frames := 0, cells := 0, slots := 0, locals := 0 }
set_option maxHeartbeats 4000000 in
set_option maxRecDepth 100000 in
theorem c_X11_wipe (l : Launch) (D : va_G) (cI cZ : ClassId) (z : jZT) (h0 h40 h41 h42 h43 h44 h45 h46 h47 h48 h49 h50 h51 h52 : Nat) (th tra tn nx tk pl va fl tc km ta le rm9 rc9 fa tr ro lo : Int) (dr : Bool) : jMu (S := Unit) l yX11_wipe wsX11_wipe rmX11_wipe [.ref h0] D cI cZ z [(h0, .inr (11, [.int (iI (th)), .long (lI (tra)), .ref h40, .int (iI (tn)), .int (iI (nx)), .int (iI (tk)), .int (iI (pl)), .int (iI (va)), .int (iI (fl)), .ref h41, .ref h42, .ref h43, .ref h44, .ref h45, .ref h46, .ref h47, .ref h48, .ref h49, .ref h50, .ref h51, .int (iI (tc)), .ref h52, .int (iI (km)), .int (iI (bI dr)), .int (iI (ta)), .int (iI (le)), .int (iI (rm9)), .int (iI (rc9)), .int (iI (fa)), .int (iI (tr)), .int (iI (ro)), .int (iI (lo))]))] (fun u => some (.int (iI (tc)))) (fun u => True) (fun u => [(h0, .inr (11, [.int (iI (0)), .long (lI (tra)), .ref h40, .int (iI (tn)), .int (iI (nx)), .int (iI (tk)), .int (iI (pl)), .int (iI (va)), .int (iI (fl)), .ref h41, .ref h42, .ref h43, .ref h44, .ref h45, .ref h46, .ref h47, .ref h48, .ref h49, .ref h50, .ref h51, .int (iI (0)), .ref h52, .int (iI (km)), .int (iI (bI dr)), .int (iI (ta)), .int (iI (le)), .int (iI (rm9)), .int (iI (rc9)), .int (iI (fa)), .int (iI (tr)), .int (iI (ro)), .int (iI (lo))]))]) := by
  refine jMu_of (cc := cX11_wipe) (n := 2) (ret := (some .int)) (by decide) rfl (Nat.le_of_ble_eq_true rfl) ?_
  intro p e s m below meth c A ls args Q hQ F hA hZ hP hK hD hS hl
  obtain ⟨hx, hb, hr, hml, hown, hts, hlocks⟩ := F
  have hown : s.vm.findClass RX11 = some m.cls := hown
  have hl : lv_has ls 2 [(0, .ref h0)] := hl
  have L56 := hts (.fieldLink RX11 56 "TinMouseModel" "thrown" "I") (by decide +kernel)
  have L125 := hts (.fieldLink RX11 125 "TinMouseModel" "tracks" "I") (by decide +kernel)
  have UX11 : ∀ w ∈ wsX110, w ∈ wsX11_wipe := fun w h => List.mem_cons_of_mem _ (List.mem_append_right _ h)
  refine lv_aload_n hx hb dX11_wipe_0 rfl (lv_at hl 0 rfl) ?_
  refine lv_iconst (v := iI (0)) hx hb dX11_wipe_1 rfl ?_
  refine va_put (D := D) (ci := 11) (v := .int (iI (0))) (ty := .int) (C := RX11) (T := TX11) (N := 32) hx hb hts UX11 tyX11 tyX11_ok nmX11 hown hK hP hD hS 0 rfl rfl 0 (by decide) L56 (fun _ h9 => h9) rfl rfl rfl rfl (Nat.le_of_ble_eq_true rfl) dX11_wipe_2 (fun H locs hP hD hS => ?_)
  have hP : va_P D vwCl [(h0, .inr (11, [.int (iI (0)), .long (lI (tra)), .ref h40, .int (iI (tn)), .int (iI (nx)), .int (iI (tk)), .int (iI (pl)), .int (iI (va)), .int (iI (fl)), .ref h41, .ref h42, .ref h43, .ref h44, .ref h45, .ref h46, .ref h47, .ref h48, .ref h49, .ref h50, .ref h51, .int (iI (tc)), .ref h52, .int (iI (km)), .int (iI (bI dr)), .int (iI (ta)), .int (iI (le)), .int (iI (rm9)), .int (iI (rc9)), .int (iI (fa)), .int (iI (tr)), .int (iI (ro)), .int (iI (lo))]))] H := hP
  have hD : va_D A [(h0, .inr (11, [.int (iI (0)), .long (lI (tra)), .ref h40, .int (iI (tn)), .int (iI (nx)), .int (iI (tk)), .int (iI (pl)), .int (iI (va)), .int (iI (fl)), .ref h41, .ref h42, .ref h43, .ref h44, .ref h45, .ref h46, .ref h47, .ref h48, .ref h49, .ref h50, .ref h51, .int (iI (tc)), .ref h52, .int (iI (km)), .int (iI (bI dr)), .int (iI (ta)), .int (iI (le)), .int (iI (rm9)), .int (iI (rc9)), .int (iI (fa)), .int (iI (tr)), .int (iI (ro)), .int (iI (lo))]))] := hD
  refine lv_aload_n hx hb dX11_wipe_5 rfl (lv_at hl 0 rfl) ?_
  refine va_get (D := D) (ci := 11) (v := .int (iI (tc))) (C := RX11) (T := TX11) (N := 32) hx hb hts UX11 hown hK hP 0 rfl rfl 20 (by decide) L125 (fun _ h9 => h9) rfl dX11_wipe_6 ?_
  refine lv_istore_n (lv' := [(1, .int (iI (tc))), (0, .ref h0)]) hx hb dX11_wipe_9 rfl hl (by decide) rfl (fun ls hl => ?_)
  refine lv_aload_n hx hb dX11_wipe_10 rfl (lv_at hl 1 rfl) ?_
  refine lv_iconst (v := iI (0)) hx hb dX11_wipe_11 rfl ?_
  refine va_put (D := D) (ci := 11) (v := .int (iI (0))) (ty := .int) (C := RX11) (T := TX11) (N := 32) hx hb hts UX11 tyX11 tyX11_ok nmX11 hown hK hP hD hS 0 rfl rfl 20 (by decide) L125 (fun _ h9 => h9) rfl rfl rfl rfl (Nat.le_of_ble_eq_true rfl) dX11_wipe_12 (fun H locs hP hD hS => ?_)
  have hP : va_P D vwCl [(h0, .inr (11, [.int (iI (0)), .long (lI (tra)), .ref h40, .int (iI (tn)), .int (iI (nx)), .int (iI (tk)), .int (iI (pl)), .int (iI (va)), .int (iI (fl)), .ref h41, .ref h42, .ref h43, .ref h44, .ref h45, .ref h46, .ref h47, .ref h48, .ref h49, .ref h50, .ref h51, .int (iI (0)), .ref h52, .int (iI (km)), .int (iI (bI dr)), .int (iI (ta)), .int (iI (le)), .int (iI (rm9)), .int (iI (rc9)), .int (iI (fa)), .int (iI (tr)), .int (iI (ro)), .int (iI (lo))]))] H := hP
  have hD : va_D A [(h0, .inr (11, [.int (iI (0)), .long (lI (tra)), .ref h40, .int (iI (tn)), .int (iI (nx)), .int (iI (tk)), .int (iI (pl)), .int (iI (va)), .int (iI (fl)), .ref h41, .ref h42, .ref h43, .ref h44, .ref h45, .ref h46, .ref h47, .ref h48, .ref h49, .ref h50, .ref h51, .int (iI (0)), .ref h52, .int (iI (km)), .int (iI (bI dr)), .int (iI (ta)), .int (iI (le)), .int (iI (rm9)), .int (iI (rc9)), .int (iI (fa)), .int (iI (tr)), .int (iI (ro)), .int (iI (lo))]))] := hD
  refine lv_iload_n hx hb dX11_wipe_15 rfl (lv_at hl 0 rfl) ?_
  rw [hQ]; exact jm_iret () hx hb hr hlocks hS hP rfl trivial dX11_wipe_16
abbrev rmX11_trace : Room := { frames := 0, cells := 0, slots := 0, locals := 0 }
set_option maxHeartbeats 4000000 in
set_option maxRecDepth 100000 in
theorem c_X11_trace (l : Launch) (D : va_G) (cI cZ : ClassId) (z : jZT) (h0 h40 h41 h42 h43 h44 h45 h46 h47 h48 h49 h50 h51 h52 : Nat) (th tra tn nx tk pl va fl tc km ta le rm9 rc9 fa tr ro lo : Int) (dr : Bool) : jMu (S := Unit) l yX11_trace wsX11_trace rmX11_trace [.ref h0] D cI cZ z [(h0, .inr (11, [.int (iI (th)), .long (lI (tra)), .ref h40, .int (iI (tn)), .int (iI (nx)), .int (iI (tk)), .int (iI (pl)), .int (iI (va)), .int (iI (fl)), .ref h41, .ref h42, .ref h43, .ref h44, .ref h45, .ref h46, .ref h47, .ref h48, .ref h49, .ref h50, .ref h51, .int (iI (tc)), .ref h52, .int (iI (km)), .int (iI (bI dr)), .int (iI (ta)), .int (iI (le)), .int (iI (rm9)), .int (iI (rc9)), .int (iI (fa)), .int (iI (tr)), .int (iI (ro)), .int (iI (lo))]))] (fun u => some (.long (lI (tra)))) (fun u => True) (fun u => [(h0, .inr (11, [.int (iI (0)), .long (lI (tra)), .ref h40, .int (iI (tn)), .int (iI (nx)), .int (iI (tk)), .int (iI (pl)), .int (iI (va)), .int (iI (fl)), .ref h41, .ref h42, .ref h43, .ref h44, .ref h45, .ref h46, .ref h47, .ref h48, .ref h49, .ref h50, .ref h51, .int (iI (tc)), .ref h52, .int (iI (km)), .int (iI (bI dr)), .int (iI (ta)), .int (iI (le)), .int (iI (rm9)), .int (iI (rc9)), .int (iI (fa)), .int (iI (tr)), .int (iI (ro)), .int (iI (lo))]))]) := by
  refine jMu_of (cc := cX11_trace) (n := 1) (ret := (some .long)) (by decide) rfl (Nat.le_of_ble_eq_true rfl) ?_
  intro p e s m below meth c A ls args Q hQ F hA hZ hP hK hD hS hl
  obtain ⟨hx, hb, hr, hml, hown, hts, hlocks⟩ := F
  have hown : s.vm.findClass RX11 = some m.cls := hown
  have hl : lv_has ls 1 [(0, .ref h0)] := hl
  have L56 := hts (.fieldLink RX11 56 "TinMouseModel" "thrown" "I") (by decide +kernel)
  have L249 := hts (.fieldLink RX11 249 "TinMouseModel" "trace" "J") (by decide +kernel)
  have UX11 : ∀ w ∈ wsX110, w ∈ wsX11_trace := fun w h => List.mem_cons_of_mem _ (List.mem_append_right _ h)
  refine lv_aload_n hx hb dX11_trace_0 rfl (lv_at hl 0 rfl) ?_
  refine lv_iconst (v := iI (0)) hx hb dX11_trace_1 rfl ?_
  refine va_put (D := D) (ci := 11) (v := .int (iI (0))) (ty := .int) (C := RX11) (T := TX11) (N := 32) hx hb hts UX11 tyX11 tyX11_ok nmX11 hown hK hP hD hS 0 rfl rfl 0 (by decide) L56 (fun _ h9 => h9) rfl rfl rfl rfl (Nat.le_of_ble_eq_true rfl) dX11_trace_2 (fun H locs hP hD hS => ?_)
  have hP : va_P D vwCl [(h0, .inr (11, [.int (iI (0)), .long (lI (tra)), .ref h40, .int (iI (tn)), .int (iI (nx)), .int (iI (tk)), .int (iI (pl)), .int (iI (va)), .int (iI (fl)), .ref h41, .ref h42, .ref h43, .ref h44, .ref h45, .ref h46, .ref h47, .ref h48, .ref h49, .ref h50, .ref h51, .int (iI (tc)), .ref h52, .int (iI (km)), .int (iI (bI dr)), .int (iI (ta)), .int (iI (le)), .int (iI (rm9)), .int (iI (rc9)), .int (iI (fa)), .int (iI (tr)), .int (iI (ro)), .int (iI (lo))]))] H := hP
  have hD : va_D A [(h0, .inr (11, [.int (iI (0)), .long (lI (tra)), .ref h40, .int (iI (tn)), .int (iI (nx)), .int (iI (tk)), .int (iI (pl)), .int (iI (va)), .int (iI (fl)), .ref h41, .ref h42, .ref h43, .ref h44, .ref h45, .ref h46, .ref h47, .ref h48, .ref h49, .ref h50, .ref h51, .int (iI (tc)), .ref h52, .int (iI (km)), .int (iI (bI dr)), .int (iI (ta)), .int (iI (le)), .int (iI (rm9)), .int (iI (rc9)), .int (iI (fa)), .int (iI (tr)), .int (iI (ro)), .int (iI (lo))]))] := hD
  refine lv_aload_n hx hb dX11_trace_5 rfl (lv_at hl 0 rfl) ?_
  refine va_get (D := D) (ci := 11) (v := .long (lI (tra))) (C := RX11) (T := TX11) (N := 32) hx hb hts UX11 hown hK hP 0 rfl rfl 1 (by decide) L249 (fun _ h9 => h9) rfl dX11_trace_6 ?_
  rw [hQ]; exact jm_lret () hx hb hr hlocks hS hP rfl trivial dX11_trace_9
