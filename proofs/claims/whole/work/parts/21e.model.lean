abbrev rmX11_meet : Room := { frames := 5, cells := 0, slots := 0, locals := 111 }
set_option maxHeartbeats 4000000 in
set_option maxRecDepth 100000 in
theorem c_X11_meet (l : Launch) (D : va_G) (cI cZ : ClassId) (z : jZT) (h0 h40 h41 h42 h43 h44 h45 h46 h47 h48 h49 h50 h51 h52 : Nat) (x y d th tra tn nx tk pl va fl tc km ta le rm9 rc9 fa tr ro lo : Int) (td gd sa wk ot : Int → Int) (dr : Bool) (hW : 3 ≤ td 0 ∧ td 0 ≤ 16) (hH : 3 ≤ td 1 ∧ td 1 ≤ 16) (hg : ∀ j : Int, 0 ≤ j → j < 256 → 0 ≤ gd j ∧ gd j ≤ 2) (hno : 1 ≤ td 2 ∧ td 2 ≤ 3) (htu : 1 ≤ td 3 ∧ td 3 ≤ 7) (hbe : 0 ≤ td 4 ∧ td 4 ≤ 9) (hsr : (-40 ≤ sa 0 ∧ sa 0 < 40) ∧ (-40 ≤ sa 1 ∧ sa 1 < 40) ∧ (0 ≤ sa 4 ∧ sa 4 < 1000)) (hsd : (0 ≤ sa 2 ∧ sa 2 < 8) ∧ (0 ≤ sa 3 ∧ sa 3 < 9)) (hx : -2147483648 ≤ x ∧ x < 2147483648) (hy : -2147483648 ≤ y ∧ y < 2147483648) (hd : -2147483648 ≤ d ∧ d < 2147483648) : jMu (S := (Int → Int) × (Int → Int) × Int × Int) l yX11_meet wsX11_meet rmX11_meet [.ref h0, .int (iI (x)), .int (iI (y)), .int (iI (d))] D cI cZ z [(h0, .inr (11, [.int (iI (th)), .long (lI (tra)), .ref h40, .int (iI (tn)), .int (iI (nx)), .int (iI (tk)), .int (iI (pl)), .int (iI (va)), .int (iI (fl)), .ref h41, .ref h42, .ref h43, .ref h44, .ref h45, .ref h46, .ref h47, .ref h48, .ref h49, .ref h50, .ref h51, .int (iI (tc)), .ref h52, .int (iI (km)), .int (iI (bI dr)), .int (iI (ta)), .int (iI (le)), .int (iI (rm9)), .int (iI (rc9)), .int (iI (fa)), .int (iI (tr)), .int (iI (ro)), .int (iI (lo))])), (h41, .inl (cI, 18, .inl (aI td))), (h42, .inl (cI, 512, .inl (aI gd))), (h43, .inl (cI, 12, .inl (aI sa))), (h46, .inl (cI, 4, .inl (aI wk))), (h47, .inl (cI, 4, .inl (aI ot)))] (fun u => some (.int (iI (u.2.2.2)))) (fun u => (u.2.2.1 = bI dr ∨ u.2.2.1 = bI false) ∧ u.2.2.2 = if isSt (td 0) (td 1) gd x y d = false then -1 else if (mSt (td 0) (td 1) gd (sa 0) (sa 1) (sa 4)) = 2 then -2 else meF (stF (td 0) (td 1) gd (td 2) (td 3) (td 4)) 4097 (stdX (td 0) (sa 0) (sa 1) (sa 2) (sa 3)) (((td 0 * y + x) * 8 + d) * 9 + 0) 0) (fun u => [(h0, .inr (11, [.int (iI (0)), .long (lI (tra)), .ref h40, .int (iI (tn)), .int (iI (nx)), .int (iI (tk)), .int (iI (pl)), .int (iI (va)), .int (iI (fl)), .ref h41, .ref h42, .ref h43, .ref h44, .ref h45, .ref h46, .ref h47, .ref h48, .ref h49, .ref h50, .ref h51, .int (iI (tc)), .ref h52, .int (iI (km)), .int (iI (u.2.2.1)), .int (iI (ta)), .int (iI (le)), .int (iI (rm9)), .int (iI (rc9)), .int (iI (fa)), .int (iI (tr)), .int (iI (ro)), .int (iI (lo))])), (h41, .inl (cI, 18, .inl (aI td))), (h42, .inl (cI, 512, .inl (aI gd))), (h43, .inl (cI, 12, .inl (aI sa))), (h46, .inl (cI, 4, .inl (aI u.1))), (h47, .inl (cI, 4, .inl (aI u.2.1)))]) := by
  refine jMu_of (cc := cX11_meet) (n := 7) (ret := (some .int)) (by decide) rfl (Nat.le_of_ble_eq_true rfl) ?_
  intro p e s m below meth c A ls args Q hQ F hA hZ hP hK hD hS hl
  obtain ⟨hx, hb, hr, hml, hown, hts, hlocks⟩ := F
  have hown : s.vm.findClass RX11 = some m.cls := hown
  have hl : lv_has ls 7 [(0, .ref h0), (1, .int (iI (x))), (2, .int (iI (y))), (3, .int (iI (d)))] := hl
  have L56 := hts (.fieldLink RX11 56 "TinMouseModel" "thrown" "I") (by decide +kernel)
  have L32 := hts (.fieldLink RX11 32 "TinMouseModel" "other" "[I") (by decide +kernel)
  have L29 := hts (.fieldLink RX11 29 "TinMouseModel" "walk" "[I") (by decide +kernel)
  have UX11 : ∀ w ∈ wsX110, w ∈ wsX11_meet := fun w h => List.mem_cons_of_mem _ (List.mem_append_right _ h)
  refine lv_aload_n hx hb dX11_meet_0 rfl (lv_at hl 0 rfl) ?_
  refine lv_iconst (v := iI (0)) hx hb dX11_meet_1 rfl ?_
  refine va_put (D := D) (ci := 11) (v := .int (iI (0))) (ty := .int) (C := RX11) (T := TX11) (N := 32) hx hb hts UX11 tyX11 tyX11_ok nmX11 hown hK hP hD hS 0 rfl rfl 0 (by decide) L56 (fun _ h9 => h9) rfl rfl rfl rfl (Nat.le_of_ble_eq_true rfl) dX11_meet_2 (fun H locs hP hD hS => ?_)
  have hP : va_P D vwCl [(h0, .inr (11, [.int (iI (0)), .long (lI (tra)), .ref h40, .int (iI (tn)), .int (iI (nx)), .int (iI (tk)), .int (iI (pl)), .int (iI (va)), .int (iI (fl)), .ref h41, .ref h42, .ref h43, .ref h44, .ref h45, .ref h46, .ref h47, .ref h48, .ref h49, .ref h50, .ref h51, .int (iI (tc)), .ref h52, .int (iI (km)), .int (iI (bI dr)), .int (iI (ta)), .int (iI (le)), .int (iI (rm9)), .int (iI (rc9)), .int (iI (fa)), .int (iI (tr)), .int (iI (ro)), .int (iI (lo))])), (h41, .inl (cI, 18, .inl (aI td))), (h42, .inl (cI, 512, .inl (aI gd))), (h43, .inl (cI, 12, .inl (aI sa))), (h46, .inl (cI, 4, .inl (aI wk))), (h47, .inl (cI, 4, .inl (aI ot)))] H := hP
  have hD : va_D A [(h0, .inr (11, [.int (iI (0)), .long (lI (tra)), .ref h40, .int (iI (tn)), .int (iI (nx)), .int (iI (tk)), .int (iI (pl)), .int (iI (va)), .int (iI (fl)), .ref h41, .ref h42, .ref h43, .ref h44, .ref h45, .ref h46, .ref h47, .ref h48, .ref h49, .ref h50, .ref h51, .int (iI (tc)), .ref h52, .int (iI (km)), .int (iI (bI dr)), .int (iI (ta)), .int (iI (le)), .int (iI (rm9)), .int (iI (rc9)), .int (iI (fa)), .int (iI (tr)), .int (iI (ro)), .int (iI (lo))])), (h41, .inl (cI, 18, .inl (aI td))), (h42, .inl (cI, 512, .inl (aI gd))), (h43, .inl (cI, 12, .inl (aI sa))), (h46, .inl (cI, 4, .inl (aI wk))), (h47, .inl (cI, 4, .inl (aI ot)))] := hD
  refine lv_aload_n hx hb dX11_meet_5 rfl (lv_at hl 0 rfl) ?_
  refine lv_iload_n hx hb dX11_meet_6 rfl (lv_at hl 1 rfl) ?_
  refine lv_iload_n hx hb dX11_meet_7 rfl (lv_at hl 2 rfl) ?_
  refine lv_iload_n hx hb dX11_meet_8 rfl (lv_at hl 3 rfl) ?_
  refine j_rd (va_runV (As := [.int (iI (x)), .int (iI (y)), .int (iI (d))]) (rest := []) ⟨hx, hb, hml, hown, hts⟩ (c_X11_isStart l D cI cZ z h0 h40 h41 h42 h43 h44 h45 h46 h47 h48 h49 h50 h51 h52 x y d 0 tra tn nx tk pl va fl tc km ta le rm9 rc9 fa tr ro lo td gd dr (by first | assumption | omega) (by first | assumption | omega) (by first | assumption | omega) (by first | assumption | omega) (by first | assumption | omega) (by first | assumption | omega) H.size) (cwV 3 hts gX11_meet_X11_isStart rfl rfl rfl hvX11_isStart ⟨Nat.le_of_ble_eq_true rfl, Nat.le_of_ble_eq_true rfl⟩) (j_preV hP hD hK hS hZ hA [0, 1, 2] rfl rfl 0 rfl rfl) rfl rfl hl.1 rfl (lv_room (Nat.le_of_ble_eq_true rfl)) dX11_meet_9 ⟨Nat.zero_le _, Nat.zero_le _⟩) ?_
  refine j_ifne_d (tgt := 17) hx hb dX11_meet_12 (by decide) (fun c_12 => ?_) (fun c_12 => ?_)
  · have hst : isSt (td 0) (td 1) gd x y d = true := (by rw [isSt_mA hW hH]; exact decide_eq_true c_12)
    refine lv_aload_n hx hb dX11_meet_17 rfl (lv_at hl 0 rfl) ?_
    refine j_rd (va_runV (As := []) (rest := []) ⟨hx, hb, hml, hown, hts⟩ (c_X11_state l D cI cZ z h0 h40 h41 h42 h43 h44 h45 h46 h47 h48 h49 h50 h51 h52 0 tra tn nx tk pl va fl tc km ta le rm9 rc9 fa tr ro lo td gd sa dr (by first | assumption | omega) (by first | assumption | omega) (by first | assumption | omega) (by first | assumption | omega) H.size) (cwV 0 hts gX11_meet_X11_state rfl rfl rfl hvX11_state ⟨Nat.le_of_ble_eq_true rfl, Nat.le_of_ble_eq_true rfl⟩) (j_preV hP hD hK hS hZ hA [0, 1, 2, 3] rfl rfl 0 rfl rfl) rfl rfl hl.1 rfl (lv_room (Nat.le_of_ble_eq_true rfl)) dX11_meet_18 ⟨Nat.zero_le _, Nat.zero_le _⟩) ?_
    refine j_top (fun ss ess => ?_)
    have hsR := mSt_rng (td 0) (td 1) gd (sa 0) (sa 1) (sa 4)
    refine lv_iconst (v := iI (2)) hx hb dX11_meet_21 rfl ?_
    refine j_icmp_ne (tgt := 28) hx hb (by omega) dX11_meet_22 (by decide) (fun c_22 => ?_) (fun c_22 => ?_)
    · have hmw := mSt_2 (by rw [← ess]; exact c_22)
      refine lv_aload_n hx hb dX11_meet_28 rfl (lv_at hl 0 rfl) ?_
      refine j_muv (va_runV (As := []) (rest := []) ⟨hx, hb, hml, hown, hts⟩ (c_X11_fromNow l D cI cZ z h0 h40 h41 h42 h43 h44 h45 h46 h47 h48 h49 h50 h51 h52 0 tra tn nx tk pl va fl tc km ta le rm9 rc9 fa tr ro lo sa wk dr  H.size) (cwV 0 hts gX11_meet_X11_fromNow rfl rfl rfl hvX11_fromNow ⟨Nat.le_of_ble_eq_true rfl, Nat.le_of_ble_eq_true rfl⟩) (j_preV hP hD hK hS hZ hA [0, 3, 4] rfl rfl 0 rfl rfl) rfl rfl hl.1 rfl (lv_room (Nat.le_of_ble_eq_true rfl)) dX11_meet_29 ⟨Nat.zero_le _, Nat.zero_le _⟩) hP hD hS hA [0, 3, 4] rfl (fun _ => rfl) (fun wkf H locs hw_29 hP hD hS => ?_)
      have hP : va_P D vwCl [(h0, .inr (11, [.int (iI (0)), .long (lI (tra)), .ref h40, .int (iI (tn)), .int (iI (nx)), .int (iI (tk)), .int (iI (pl)), .int (iI (va)), .int (iI (fl)), .ref h41, .ref h42, .ref h43, .ref h44, .ref h45, .ref h46, .ref h47, .ref h48, .ref h49, .ref h50, .ref h51, .int (iI (tc)), .ref h52, .int (iI (km)), .int (iI (bI false)), .int (iI (ta)), .int (iI (le)), .int (iI (rm9)), .int (iI (rc9)), .int (iI (fa)), .int (iI (tr)), .int (iI (ro)), .int (iI (lo))])), (h41, .inl (cI, 18, .inl (aI td))), (h42, .inl (cI, 512, .inl (aI gd))), (h43, .inl (cI, 12, .inl (aI sa))), (h46, .inl (cI, 4, .inl (aI wkf))), (h47, .inl (cI, 4, .inl (aI ot)))] H := hP
      have hD : va_D A [(h0, .inr (11, [.int (iI (0)), .long (lI (tra)), .ref h40, .int (iI (tn)), .int (iI (nx)), .int (iI (tk)), .int (iI (pl)), .int (iI (va)), .int (iI (fl)), .ref h41, .ref h42, .ref h43, .ref h44, .ref h45, .ref h46, .ref h47, .ref h48, .ref h49, .ref h50, .ref h51, .int (iI (tc)), .ref h52, .int (iI (km)), .int (iI (bI false)), .int (iI (ta)), .int (iI (le)), .int (iI (rm9)), .int (iI (rc9)), .int (iI (fa)), .int (iI (tr)), .int (iI (ro)), .int (iI (lo))])), (h41, .inl (cI, 18, .inl (aI td))), (h42, .inl (cI, 512, .inl (aI gd))), (h43, .inl (cI, 12, .inl (aI sa))), (h46, .inl (cI, 4, .inl (aI wkf))), (h47, .inl (cI, 4, .inl (aI ot)))] := hD
      have e0 := hw_29 0 (by omega) (by omega)
      have e1 := hw_29 1 (by omega) (by omega)
      have e2 := hw_29 2 (by omega) (by omega)
      have e3 := hw_29 3 (by omega) (by omega)
      have hin := mW_in hmw
      have hrp0 : RepI (td 0) (td 1) wkf (stdX (td 0) (sa 0) (sa 1) (sa 2) (sa 3)) := ⟨by rw [e0, e1, e2, e3], by rw [e0, e1, e2, e3]; omega⟩
      refine lv_aload_n hx hb dX11_meet_32 rfl (lv_at hl 0 rfl) ?_
      refine va_get (D := D) (ci := 11) (v := .ref h47) (C := RX11) (T := TX11) (N := 32) hx hb hts UX11 hown hK hP 0 rfl rfl 15 (by decide) L32 (fun _ h9 => h9) rfl dX11_meet_33 ?_
      refine lv_iconst (v := iI (0)) hx hb dX11_meet_36 rfl ?_
      refine lv_iload_n hx hb dX11_meet_37 rfl (lv_at hl 1 rfl) ?_
      refine j_iast hx hb hK hP hD hS 5 0 rfl rfl (by omega) dX11_meet_38 (fun H locs hP hD hS => ?_)
      have hP : va_P D vwCl [(h0, .inr (11, [.int (iI (0)), .long (lI (tra)), .ref h40, .int (iI (tn)), .int (iI (nx)), .int (iI (tk)), .int (iI (pl)), .int (iI (va)), .int (iI (fl)), .ref h41, .ref h42, .ref h43, .ref h44, .ref h45, .ref h46, .ref h47, .ref h48, .ref h49, .ref h50, .ref h51, .int (iI (tc)), .ref h52, .int (iI (km)), .int (iI (bI false)), .int (iI (ta)), .int (iI (le)), .int (iI (rm9)), .int (iI (rc9)), .int (iI (fa)), .int (iI (tr)), .int (iI (ro)), .int (iI (lo))])), (h41, .inl (cI, 18, .inl (aI td))), (h42, .inl (cI, 512, .inl (aI gd))), (h43, .inl (cI, 12, .inl (aI sa))), (h46, .inl (cI, 4, .inl (aI wkf))), (h47, .inl (cI, 4, .inl (aI (upZ ot 0 x))))] H := hP
      have hD : va_D A [(h0, .inr (11, [.int (iI (0)), .long (lI (tra)), .ref h40, .int (iI (tn)), .int (iI (nx)), .int (iI (tk)), .int (iI (pl)), .int (iI (va)), .int (iI (fl)), .ref h41, .ref h42, .ref h43, .ref h44, .ref h45, .ref h46, .ref h47, .ref h48, .ref h49, .ref h50, .ref h51, .int (iI (tc)), .ref h52, .int (iI (km)), .int (iI (bI false)), .int (iI (ta)), .int (iI (le)), .int (iI (rm9)), .int (iI (rc9)), .int (iI (fa)), .int (iI (tr)), .int (iI (ro)), .int (iI (lo))])), (h41, .inl (cI, 18, .inl (aI td))), (h42, .inl (cI, 512, .inl (aI gd))), (h43, .inl (cI, 12, .inl (aI sa))), (h46, .inl (cI, 4, .inl (aI wkf))), (h47, .inl (cI, 4, .inl (aI (upZ ot 0 x))))] := hD
      refine lv_aload_n hx hb dX11_meet_39 rfl (lv_at hl 0 rfl) ?_
      refine va_get (D := D) (ci := 11) (v := .ref h47) (C := RX11) (T := TX11) (N := 32) hx hb hts UX11 hown hK hP 0 rfl rfl 15 (by decide) L32 (fun _ h9 => h9) rfl dX11_meet_40 ?_
      refine lv_iconst (v := iI (1)) hx hb dX11_meet_43 rfl ?_
      refine lv_iload_n hx hb dX11_meet_44 rfl (lv_at hl 2 rfl) ?_
      refine j_iast hx hb hK hP hD hS 5 0 rfl rfl (by omega) dX11_meet_45 (fun H locs hP hD hS => ?_)
      have hP : va_P D vwCl [(h0, .inr (11, [.int (iI (0)), .long (lI (tra)), .ref h40, .int (iI (tn)), .int (iI (nx)), .int (iI (tk)), .int (iI (pl)), .int (iI (va)), .int (iI (fl)), .ref h41, .ref h42, .ref h43, .ref h44, .ref h45, .ref h46, .ref h47, .ref h48, .ref h49, .ref h50, .ref h51, .int (iI (tc)), .ref h52, .int (iI (km)), .int (iI (bI false)), .int (iI (ta)), .int (iI (le)), .int (iI (rm9)), .int (iI (rc9)), .int (iI (fa)), .int (iI (tr)), .int (iI (ro)), .int (iI (lo))])), (h41, .inl (cI, 18, .inl (aI td))), (h42, .inl (cI, 512, .inl (aI gd))), (h43, .inl (cI, 12, .inl (aI sa))), (h46, .inl (cI, 4, .inl (aI wkf))), (h47, .inl (cI, 4, .inl (aI (upZ (upZ ot 0 x) 1 y))))] H := hP
      have hD : va_D A [(h0, .inr (11, [.int (iI (0)), .long (lI (tra)), .ref h40, .int (iI (tn)), .int (iI (nx)), .int (iI (tk)), .int (iI (pl)), .int (iI (va)), .int (iI (fl)), .ref h41, .ref h42, .ref h43, .ref h44, .ref h45, .ref h46, .ref h47, .ref h48, .ref h49, .ref h50, .ref h51, .int (iI (tc)), .ref h52, .int (iI (km)), .int (iI (bI false)), .int (iI (ta)), .int (iI (le)), .int (iI (rm9)), .int (iI (rc9)), .int (iI (fa)), .int (iI (tr)), .int (iI (ro)), .int (iI (lo))])), (h41, .inl (cI, 18, .inl (aI td))), (h42, .inl (cI, 512, .inl (aI gd))), (h43, .inl (cI, 12, .inl (aI sa))), (h46, .inl (cI, 4, .inl (aI wkf))), (h47, .inl (cI, 4, .inl (aI (upZ (upZ ot 0 x) 1 y))))] := hD
      refine lv_aload_n hx hb dX11_meet_46 rfl (lv_at hl 0 rfl) ?_
      refine va_get (D := D) (ci := 11) (v := .ref h47) (C := RX11) (T := TX11) (N := 32) hx hb hts UX11 hown hK hP 0 rfl rfl 15 (by decide) L32 (fun _ h9 => h9) rfl dX11_meet_47 ?_
      refine lv_iconst (v := iI (2)) hx hb dX11_meet_50 rfl ?_
      refine lv_iload_n hx hb dX11_meet_51 rfl (lv_at hl 3 rfl) ?_
      refine j_iast hx hb hK hP hD hS 5 0 rfl rfl (by omega) dX11_meet_52 (fun H locs hP hD hS => ?_)
      have hP : va_P D vwCl [(h0, .inr (11, [.int (iI (0)), .long (lI (tra)), .ref h40, .int (iI (tn)), .int (iI (nx)), .int (iI (tk)), .int (iI (pl)), .int (iI (va)), .int (iI (fl)), .ref h41, .ref h42, .ref h43, .ref h44, .ref h45, .ref h46, .ref h47, .ref h48, .ref h49, .ref h50, .ref h51, .int (iI (tc)), .ref h52, .int (iI (km)), .int (iI (bI false)), .int (iI (ta)), .int (iI (le)), .int (iI (rm9)), .int (iI (rc9)), .int (iI (fa)), .int (iI (tr)), .int (iI (ro)), .int (iI (lo))])), (h41, .inl (cI, 18, .inl (aI td))), (h42, .inl (cI, 512, .inl (aI gd))), (h43, .inl (cI, 12, .inl (aI sa))), (h46, .inl (cI, 4, .inl (aI wkf))), (h47, .inl (cI, 4, .inl (aI (upZ (upZ (upZ ot 0 x) 1 y) 2 d))))] H := hP
      have hD : va_D A [(h0, .inr (11, [.int (iI (0)), .long (lI (tra)), .ref h40, .int (iI (tn)), .int (iI (nx)), .int (iI (tk)), .int (iI (pl)), .int (iI (va)), .int (iI (fl)), .ref h41, .ref h42, .ref h43, .ref h44, .ref h45, .ref h46, .ref h47, .ref h48, .ref h49, .ref h50, .ref h51, .int (iI (tc)), .ref h52, .int (iI (km)), .int (iI (bI false)), .int (iI (ta)), .int (iI (le)), .int (iI (rm9)), .int (iI (rc9)), .int (iI (fa)), .int (iI (tr)), .int (iI (ro)), .int (iI (lo))])), (h41, .inl (cI, 18, .inl (aI td))), (h42, .inl (cI, 512, .inl (aI gd))), (h43, .inl (cI, 12, .inl (aI sa))), (h46, .inl (cI, 4, .inl (aI wkf))), (h47, .inl (cI, 4, .inl (aI (upZ (upZ (upZ ot 0 x) 1 y) 2 d))))] := hD
      refine lv_aload_n hx hb dX11_meet_53 rfl (lv_at hl 0 rfl) ?_
      refine va_get (D := D) (ci := 11) (v := .ref h47) (C := RX11) (T := TX11) (N := 32) hx hb hts UX11 hown hK hP 0 rfl rfl 15 (by decide) L32 (fun _ h9 => h9) rfl dX11_meet_54 ?_
      refine lv_iconst (v := iI (3)) hx hb dX11_meet_57 rfl ?_
      refine lv_iconst (v := iI (0)) hx hb dX11_meet_58 rfl ?_
      refine j_iast hx hb hK hP hD hS 5 0 rfl rfl (by omega) dX11_meet_59 (fun H locs hP hD hS => ?_)
      have hP : va_P D vwCl [(h0, .inr (11, [.int (iI (0)), .long (lI (tra)), .ref h40, .int (iI (tn)), .int (iI (nx)), .int (iI (tk)), .int (iI (pl)), .int (iI (va)), .int (iI (fl)), .ref h41, .ref h42, .ref h43, .ref h44, .ref h45, .ref h46, .ref h47, .ref h48, .ref h49, .ref h50, .ref h51, .int (iI (tc)), .ref h52, .int (iI (km)), .int (iI (bI false)), .int (iI (ta)), .int (iI (le)), .int (iI (rm9)), .int (iI (rc9)), .int (iI (fa)), .int (iI (tr)), .int (iI (ro)), .int (iI (lo))])), (h41, .inl (cI, 18, .inl (aI td))), (h42, .inl (cI, 512, .inl (aI gd))), (h43, .inl (cI, 12, .inl (aI sa))), (h46, .inl (cI, 4, .inl (aI wkf))), (h47, .inl (cI, 4, .inl (aI (upZ (upZ (upZ (upZ ot 0 x) 1 y) 2 d) 3 0))))] H := hP
      have hD : va_D A [(h0, .inr (11, [.int (iI (0)), .long (lI (tra)), .ref h40, .int (iI (tn)), .int (iI (nx)), .int (iI (tk)), .int (iI (pl)), .int (iI (va)), .int (iI (fl)), .ref h41, .ref h42, .ref h43, .ref h44, .ref h45, .ref h46, .ref h47, .ref h48, .ref h49, .ref h50, .ref h51, .int (iI (tc)), .ref h52, .int (iI (km)), .int (iI (bI false)), .int (iI (ta)), .int (iI (le)), .int (iI (rm9)), .int (iI (rc9)), .int (iI (fa)), .int (iI (tr)), .int (iI (ro)), .int (iI (lo))])), (h41, .inl (cI, 18, .inl (aI td))), (h42, .inl (cI, 512, .inl (aI gd))), (h43, .inl (cI, 12, .inl (aI sa))), (h46, .inl (cI, 4, .inl (aI wkf))), (h47, .inl (cI, 4, .inl (aI (upZ (upZ (upZ (upZ ot 0 x) 1 y) 2 d) 3 0))))] := hD
      refine lv_iconst (v := iI (0)) hx hb dX11_meet_60 rfl ?_
      refine lv_istore (lv' := [(4, .int (iI (0))), (0, .ref h0), (1, .int (iI (x))), (2, .int (iI (y))), (3, .int (iI (d)))]) hx hb dX11_meet_61 hl (by decide) rfl (fun ls hl => ?_)
      have loop_63 : ∀ (fuel_63 : Nat) (i : Int) (wk9 : Int → Int) (ot9 : Int → Int) (m9 : Nat) (q1 : Int) (q2 : Int), ((0 ≤ i ∧ i + (m9 : Int) = 4097) ∧ RepI (td 0) (td 1) wk9 q1 ∧ RepI (td 0) (td 1) ot9 q2 ∧ meF (stF (td 0) (td 1) gd (td 2) (td 3) (td 4)) m9 q1 q2 i = meF (stF (td 0) (td 1) gd (td 2) (td 3) (td 4)) 4097 (stdX (td 0) (sa 0) (sa 1) (sa 2) (sa 3)) (((td 0 * y + x) * 8 + d) * 9 + 0) 0) → m9 < fuel_63 → ∀ (H : Heap) (locs : List Loc), va_P D vwCl [(h0, .inr (11, [.int (iI (0)), .long (lI (tra)), .ref h40, .int (iI (tn)), .int (iI (nx)), .int (iI (tk)), .int (iI (pl)), .int (iI (va)), .int (iI (fl)), .ref h41, .ref h42, .ref h43, .ref h44, .ref h45, .ref h46, .ref h47, .ref h48, .ref h49, .ref h50, .ref h51, .int (iI (tc)), .ref h52, .int (iI (km)), .int (iI (bI false)), .int (iI (ta)), .int (iI (le)), .int (iI (rm9)), .int (iI (rc9)), .int (iI (fa)), .int (iI (tr)), .int (iI (ro)), .int (iI (lo))])), (h41, .inl (cI, 18, .inl (aI td))), (h42, .inl (cI, 512, .inl (aI gd))), (h43, .inl (cI, 12, .inl (aI sa))), (h46, .inl (cI, 4, .inl (aI wk9))), (h47, .inl (cI, 4, .inl (aI ot9)))] H → va_D A [(h0, .inr (11, [.int (iI (0)), .long (lI (tra)), .ref h40, .int (iI (tn)), .int (iI (nx)), .int (iI (tk)), .int (iI (pl)), .int (iI (va)), .int (iI (fl)), .ref h41, .ref h42, .ref h43, .ref h44, .ref h45, .ref h46, .ref h47, .ref h48, .ref h49, .ref h50, .ref h51, .int (iI (tc)), .ref h52, .int (iI (km)), .int (iI (bI false)), .int (iI (ta)), .int (iI (le)), .int (iI (rm9)), .int (iI (rc9)), .int (iI (fa)), .int (iI (tr)), .int (iI (ro)), .int (iI (lo))])), (h41, .inl (cI, 18, .inl (aI td))), (h42, .inl (cI, 512, .inl (aI gd))), (h43, .inl (cI, 12, .inl (aI sa))), (h46, .inl (cI, 4, .inl (aI wk9))), (h47, .inl (cI, 4, .inl (aI ot9)))] → va_S A s.heap H locs → ∀ ls : Array Slot, lv_has ls 7 [(0, .ref h0), (4, .int (iI (i)))] → W p l e rmX11_meet s m args below meth c H locs 0 0 Q (F0 m 63 ls []) := by
        intro fuel_63
        induction fuel_63 with
        | zero => intro i wk9 ot9 m9 q1 q2 hI9 hm9; exact absurd hm9 (Nat.not_lt_zero _)
        | succ fuel_63 ih_63 =>
          intro i wk9 ot9 m9 q1 q2 hI_63 hm_63 H locs hP hD hS ls hl
          obtain ⟨hi1, hi2, hi3, hi4⟩ := hI_63
          refine lv_iload hx hb dX11_meet_63 (lv_at hl 1 rfl) ?_
          refine lv_sipush (v := iI (4097)) hx hb dX11_meet_65 (by decide) ?_
          refine j_icmp_ge (tgt := 161) hx hb (by omega) dX11_meet_68 (by decide) (fun c_68 => ?_) (fun c_68 => ?_)
          · refine lv_bipush (v := iI (-9)) hx hb dX11_meet_161 (by decide) ?_
            rw [hQ]; exact jm_iret (wk9, ot9, bI false, -9) hx hb hr hlocks hS hP rfl (by (try dsimp only); rw [if_neg (by rw [hst]; decide), if_neg (by omega), me_out hi4 (by omega)]; exact ⟨Or.inr rfl, rfl⟩) dX11_meet_163
          · have hxr := hi2.2
            have hyr := hi3.2
            refine lv_aload_n hx hb dX11_meet_71 rfl (lv_at hl 0 rfl) ?_
            refine va_get (D := D) (ci := 11) (v := .ref h46) (C := RX11) (T := TX11) (N := 32) hx hb hts UX11 hown hK hP 0 rfl rfl 14 (by decide) L29 (fun _ h9 => h9) rfl dX11_meet_72 ?_
            refine lv_iconst (v := iI (0)) hx hb dX11_meet_75 rfl ?_
            refine j_iald hx hb hK hP 4 0 rfl rfl (by omega) dX11_meet_76 ?_
            refine lv_aload_n hx hb dX11_meet_77 rfl (lv_at hl 0 rfl) ?_
            refine va_get (D := D) (ci := 11) (v := .ref h47) (C := RX11) (T := TX11) (N := 32) hx hb hts UX11 hown hK hP 0 rfl rfl 15 (by decide) L32 (fun _ h9 => h9) rfl dX11_meet_78 ?_
            refine lv_iconst (v := iI (0)) hx hb dX11_meet_81 rfl ?_
            refine j_iald hx hb hK hP 5 0 rfl rfl (by omega) dX11_meet_82 ?_
            refine j_icmp_ne (tgt := 104) hx hb (by omega) dX11_meet_83 (by decide) (fun c_83 => ?_) (fun c_83 => ?_)
            · have hrs := rep_same hW hH hi2 hi3
              have hq1 := (rep_cell hW hH hi2).2.2
              have hq2 := (rep_cell hW hH hi3).2.2
              have hne : ¬ q1 / 72 = q2 / 72 := fun w => by have w2 := hrs.mpr w; omega
              refine lv_aload_n hx hb dX11_meet_104 rfl (lv_at hl 0 rfl) ?_
              refine lv_aload_n hx hb dX11_meet_105 rfl (lv_at hl 0 rfl) ?_
              refine va_get (D := D) (ci := 11) (v := .ref h46) (C := RX11) (T := TX11) (N := 32) hx hb hts UX11 hown hK hP 0 rfl rfl 14 (by decide) L29 (fun _ h9 => h9) rfl dX11_meet_106 ?_
              refine j_mui (va_runV (As := [.ref h46]) (rest := []) ⟨hx, hb, hml, hown, hts⟩ (c_X11_stepsA l D cI cZ z h0 h46 h40 h41 h42 h43 h44 h45 h46 h47 h48 h49 h50 h51 h52 0 tra tn nx tk pl va fl tc km ta le rm9 rc9 fa tr ro lo td gd wk9 false (by first | assumption | omega) (by first | assumption | omega) (by first | assumption | omega) (by first | assumption | omega) (by first | assumption | omega) (by first | assumption | omega) (by exact hi2.2) (by rfl) H.size) (cwV 1 hts gX11_meet_X11_steps rfl rfl rfl hvX11_steps ⟨Nat.le_of_ble_eq_true rfl, Nat.le_of_ble_eq_true rfl⟩) (j_preV hP hD hK hS hZ hA [0, 1, 2, 4] rfl rfl 0 rfl rfl) rfl rfl hl.1 rfl (lv_room (Nat.le_of_ble_eq_true rfl)) dX11_meet_109 ⟨Nat.zero_le _, Nat.zero_le _⟩) hP hD hS hA [0, 1, 2, 4] rfl (fun _ => rfl) (fun u_9 H locs hw_109 hP hD hS => ?_)
              obtain ⟨wk3, rr⟩ := u_9
              dsimp only at hw_109
              have hP : va_P D vwCl [(h0, .inr (11, [.int (iI (0)), .long (lI (tra)), .ref h40, .int (iI (tn)), .int (iI (nx)), .int (iI (tk)), .int (iI (pl)), .int (iI (va)), .int (iI (fl)), .ref h41, .ref h42, .ref h43, .ref h44, .ref h45, .ref h46, .ref h47, .ref h48, .ref h49, .ref h50, .ref h51, .int (iI (tc)), .ref h52, .int (iI (km)), .int (iI (bI false)), .int (iI (ta)), .int (iI (le)), .int (iI (rm9)), .int (iI (rc9)), .int (iI (fa)), .int (iI (tr)), .int (iI (ro)), .int (iI (lo))])), (h41, .inl (cI, 18, .inl (aI td))), (h42, .inl (cI, 512, .inl (aI gd))), (h43, .inl (cI, 12, .inl (aI sa))), (h46, .inl (cI, 4, .inl (aI wk3))), (h47, .inl (cI, 4, .inl (aI ot9)))] H := hP
              have hD : va_D A [(h0, .inr (11, [.int (iI (0)), .long (lI (tra)), .ref h40, .int (iI (tn)), .int (iI (nx)), .int (iI (tk)), .int (iI (pl)), .int (iI (va)), .int (iI (fl)), .ref h41, .ref h42, .ref h43, .ref h44, .ref h45, .ref h46, .ref h47, .ref h48, .ref h49, .ref h50, .ref h51, .int (iI (tc)), .ref h52, .int (iI (km)), .int (iI (bI false)), .int (iI (ta)), .int (iI (le)), .int (iI (rm9)), .int (iI (rc9)), .int (iI (fa)), .int (iI (tr)), .int (iI (ro)), .int (iI (lo))])), (h41, .inl (cI, 18, .inl (aI td))), (h42, .inl (cI, 512, .inl (aI gd))), (h43, .inl (cI, 12, .inl (aI sa))), (h46, .inl (cI, 4, .inl (aI wk3))), (h47, .inl (cI, 4, .inl (aI ot9)))] := hD
              refine j_top (fun rv erv => ?_)
              dsimp only at erv
              have hms := rep_step hW hH htu hbe hi2 hw_109
              refine lv_iconst (v := iI (-1)) hx hb dX11_meet_112 rfl ?_
              obtain ⟨one, eone⟩ : ∃ t : Int, t = if rv = (-1) then 0 else 1 := ⟨_, rfl⟩
              have kone : W p l e rmX11_meet s m args below meth c H locs 0 0 Q (F0 m 121 ls [.int (iI (one))]) := by
                refine lv_istore (lv' := [(5, .int (iI (one))), (0, .ref h0), (4, .int (iI (i)))]) hx hb dX11_meet_121 hl (by decide) rfl (fun ls hl => ?_)
                refine lv_aload_n hx hb dX11_meet_123 rfl (lv_at hl 1 rfl) ?_
                refine lv_aload_n hx hb dX11_meet_124 rfl (lv_at hl 1 rfl) ?_
                refine va_get (D := D) (ci := 11) (v := .ref h47) (C := RX11) (T := TX11) (N := 32) hx hb hts UX11 hown hK hP 0 rfl rfl 15 (by decide) L32 (fun _ h9 => h9) rfl dX11_meet_125 ?_
                refine j_mui (va_runV (As := [.ref h47]) (rest := []) ⟨hx, hb, hml, hown, hts⟩ (c_X11_stepsA l D cI cZ z h0 h47 h40 h41 h42 h43 h44 h45 h46 h47 h48 h49 h50 h51 h52 0 tra tn nx tk pl va fl tc km ta le rm9 rc9 fa tr ro lo td gd ot9 false (by first | assumption | omega) (by first | assumption | omega) (by first | assumption | omega) (by first | assumption | omega) (by first | assumption | omega) (by first | assumption | omega) (by exact hi3.2) (by rfl) H.size) (cwV 1 hts gX11_meet_X11_steps rfl rfl rfl hvX11_steps ⟨Nat.le_of_ble_eq_true rfl, Nat.le_of_ble_eq_true rfl⟩) (j_preV hP hD hK hS hZ hA [0, 1, 2, 5] rfl rfl 0 rfl rfl) rfl rfl hl.1 rfl (lv_room (Nat.le_of_ble_eq_true rfl)) dX11_meet_128 ⟨Nat.zero_le _, Nat.zero_le _⟩) hP hD hS hA [0, 1, 2, 5] rfl (fun _ => rfl) (fun u_9 H locs hw_128 hP hD hS => ?_)
                obtain ⟨ot3, rs⟩ := u_9
                dsimp only at hw_128
                have hP : va_P D vwCl [(h0, .inr (11, [.int (iI (0)), .long (lI (tra)), .ref h40, .int (iI (tn)), .int (iI (nx)), .int (iI (tk)), .int (iI (pl)), .int (iI (va)), .int (iI (fl)), .ref h41, .ref h42, .ref h43, .ref h44, .ref h45, .ref h46, .ref h47, .ref h48, .ref h49, .ref h50, .ref h51, .int (iI (tc)), .ref h52, .int (iI (km)), .int (iI (bI false)), .int (iI (ta)), .int (iI (le)), .int (iI (rm9)), .int (iI (rc9)), .int (iI (fa)), .int (iI (tr)), .int (iI (ro)), .int (iI (lo))])), (h41, .inl (cI, 18, .inl (aI td))), (h42, .inl (cI, 512, .inl (aI gd))), (h43, .inl (cI, 12, .inl (aI sa))), (h46, .inl (cI, 4, .inl (aI wk3))), (h47, .inl (cI, 4, .inl (aI ot3)))] H := hP
                have hD : va_D A [(h0, .inr (11, [.int (iI (0)), .long (lI (tra)), .ref h40, .int (iI (tn)), .int (iI (nx)), .int (iI (tk)), .int (iI (pl)), .int (iI (va)), .int (iI (fl)), .ref h41, .ref h42, .ref h43, .ref h44, .ref h45, .ref h46, .ref h47, .ref h48, .ref h49, .ref h50, .ref h51, .int (iI (tc)), .ref h52, .int (iI (km)), .int (iI (bI false)), .int (iI (ta)), .int (iI (le)), .int (iI (rm9)), .int (iI (rc9)), .int (iI (fa)), .int (iI (tr)), .int (iI (ro)), .int (iI (lo))])), (h41, .inl (cI, 18, .inl (aI td))), (h42, .inl (cI, 512, .inl (aI gd))), (h43, .inl (cI, 12, .inl (aI sa))), (h46, .inl (cI, 4, .inl (aI wk3))), (h47, .inl (cI, 4, .inl (aI ot3)))] := hD
                refine j_top (fun rw9 erw9 => ?_)
                dsimp only at erw9
                have hmo := rep_step hW hH htu hbe hi3 hw_128
                refine lv_iconst (v := iI (-1)) hx hb dX11_meet_131 rfl ?_
                obtain ⟨two, etwo⟩ : ∃ t : Int, t = if rw9 = (-1) then 0 else 1 := ⟨_, rfl⟩
                have ktwo : W p l e rmX11_meet s m args below meth c H locs 0 0 Q (F0 m 140 ls [.int (iI (two))]) := by
                  refine lv_istore (lv' := [(6, .int (iI (two))), (5, .int (iI (one))), (0, .ref h0), (4, .int (iI (i)))]) hx hb dX11_meet_140 hl (by decide) rfl (fun ls hl => ?_)
                  refine lv_iload hx hb dX11_meet_142 (lv_at hl 1 rfl) ?_
                  refine j_if_eq (tgt := 152) hx hb (by omega) dX11_meet_144 (by decide) (fun c_144 => ?_) (fun c_144 => ?_)
                  · refine lv_bipush (v := iI (-9)) hx hb dX11_meet_152 (by decide) ?_
                    rw [hQ]; exact jm_iret (wk3, ot3, bI false, -9) hx hb hr hlocks hS hP rfl (by (try dsimp only); rw [if_neg (by rw [hst]; decide), if_neg (by omega), me_fall hi4 (by omega) (by omega) hne (by rcases hms with w | w; (exact Or.inl (by omega)); (rcases hmo with v | v; (exact Or.inr (by omega)); (exact False.elim (by omega))))]; exact ⟨Or.inr rfl, rfl⟩) dX11_meet_154
                  · refine lv_iload hx hb dX11_meet_147 (lv_at hl 0 rfl) ?_
                    refine j_if_ne (tgt := 155) hx hb (by omega) dX11_meet_149 (by decide) (fun c_149 => ?_) (fun c_149 => ?_)
                    · refine lv_iinc (v := iI (i + 1)) (lv' := [(4, .int (iI (i + 1))), (6, .int (iI (two))), (5, .int (iI (one))), (0, .ref h0)]) hx hb dX11_meet_155 hl (k := 3) rfl (iI_add _ _) (by decide) rfl (fun ls hl => ?_)
                      refine lv_goto (tgt := 63) hx hb dX11_meet_158 (by decide) ?_
                      exact ih_63 ((i + 1)) wk3 ot3 (m9 - 1) (((stF (td 0) (td 1) gd (td 2) (td 3) (td 4)) q1)) (((stF (td 0) (td 1) gd (td 2) (td 3) (td 4)) q2)) (by exact ⟨by omega, (hms.resolve_left (fun w => by omega)).2.1, (hmo.resolve_left (fun w => by omega)).2.1, me_go hi4 (by omega) (by omega) hne⟩) (by omega) H locs hP hD hS ls (lv_sub hl [3, 0] rfl)
                    · refine lv_bipush (v := iI (-9)) hx hb dX11_meet_152 (by decide) ?_
                      rw [hQ]; exact jm_iret (wk3, ot3, bI false, -9) hx hb hr hlocks hS hP rfl (by (try dsimp only); rw [if_neg (by rw [hst]; decide), if_neg (by omega), me_fall hi4 (by omega) (by omega) hne (by rcases hms with w | w; (exact Or.inl (by omega)); (rcases hmo with v | v; (exact Or.inr (by omega)); (exact False.elim (by omega))))]; exact ⟨Or.inr rfl, rfl⟩) dX11_meet_154
                refine j_icmp_eq (tgt := 139) hx hb (by omega) dX11_meet_132 (by decide) (fun q_1 => ?_) (fun q_1 => ?_)
                · refine lv_iconst (v := iI (0)) hx hb dX11_meet_139 rfl ?_
                  (have q9 := ktwo; rw [etwo, if_pos q_1] at q9; exact q9)
                · refine lv_iconst (v := iI (1)) hx hb dX11_meet_135 rfl ?_
                  refine lv_goto (tgt := 140) hx hb dX11_meet_136 (by decide) ?_
                  (have q9 := ktwo; rw [etwo, if_neg q_1] at q9; exact q9)
              refine j_icmp_eq (tgt := 120) hx hb (by omega) dX11_meet_113 (by decide) (fun q_2 => ?_) (fun q_2 => ?_)
              · refine lv_iconst (v := iI (0)) hx hb dX11_meet_120 rfl ?_
                (have q9 := kone; rw [eone, if_pos q_2] at q9; exact q9)
              · refine lv_iconst (v := iI (1)) hx hb dX11_meet_116 rfl ?_
                refine lv_goto (tgt := 121) hx hb dX11_meet_117 (by decide) ?_
                (have q9 := kone; rw [eone, if_neg q_2] at q9; exact q9)
            · have hrs := rep_same hW hH hi2 hi3
              have hq1 := (rep_cell hW hH hi2).2.2
              have hq2 := (rep_cell hW hH hi3).2.2
              refine lv_aload_n hx hb dX11_meet_86 rfl (lv_at hl 0 rfl) ?_
              refine va_get (D := D) (ci := 11) (v := .ref h46) (C := RX11) (T := TX11) (N := 32) hx hb hts UX11 hown hK hP 0 rfl rfl 14 (by decide) L29 (fun _ h9 => h9) rfl dX11_meet_87 ?_
              refine lv_iconst (v := iI (1)) hx hb dX11_meet_90 rfl ?_
              refine j_iald hx hb hK hP 4 0 rfl rfl (by omega) dX11_meet_91 ?_
              refine lv_aload_n hx hb dX11_meet_92 rfl (lv_at hl 0 rfl) ?_
              refine va_get (D := D) (ci := 11) (v := .ref h47) (C := RX11) (T := TX11) (N := 32) hx hb hts UX11 hown hK hP 0 rfl rfl 15 (by decide) L32 (fun _ h9 => h9) rfl dX11_meet_93 ?_
              refine lv_iconst (v := iI (1)) hx hb dX11_meet_96 rfl ?_
              refine j_iald hx hb hK hP 5 0 rfl rfl (by omega) dX11_meet_97 ?_
              refine j_icmp_ne (tgt := 104) hx hb (by omega) dX11_meet_98 (by decide) (fun c_98 => ?_) (fun c_98 => ?_)
              · have hrs := rep_same hW hH hi2 hi3
                have hq1 := (rep_cell hW hH hi2).2.2
                have hq2 := (rep_cell hW hH hi3).2.2
                have hne : ¬ q1 / 72 = q2 / 72 := fun w => by have w2 := hrs.mpr w; omega
                refine lv_aload_n hx hb dX11_meet_104 rfl (lv_at hl 0 rfl) ?_
                refine lv_aload_n hx hb dX11_meet_105 rfl (lv_at hl 0 rfl) ?_
                refine va_get (D := D) (ci := 11) (v := .ref h46) (C := RX11) (T := TX11) (N := 32) hx hb hts UX11 hown hK hP 0 rfl rfl 14 (by decide) L29 (fun _ h9 => h9) rfl dX11_meet_106 ?_
                refine j_mui (va_runV (As := [.ref h46]) (rest := []) ⟨hx, hb, hml, hown, hts⟩ (c_X11_stepsA l D cI cZ z h0 h46 h40 h41 h42 h43 h44 h45 h46 h47 h48 h49 h50 h51 h52 0 tra tn nx tk pl va fl tc km ta le rm9 rc9 fa tr ro lo td gd wk9 false (by first | assumption | omega) (by first | assumption | omega) (by first | assumption | omega) (by first | assumption | omega) (by first | assumption | omega) (by first | assumption | omega) (by exact hi2.2) (by rfl) H.size) (cwV 1 hts gX11_meet_X11_steps rfl rfl rfl hvX11_steps ⟨Nat.le_of_ble_eq_true rfl, Nat.le_of_ble_eq_true rfl⟩) (j_preV hP hD hK hS hZ hA [0, 1, 2, 4] rfl rfl 0 rfl rfl) rfl rfl hl.1 rfl (lv_room (Nat.le_of_ble_eq_true rfl)) dX11_meet_109 ⟨Nat.zero_le _, Nat.zero_le _⟩) hP hD hS hA [0, 1, 2, 4] rfl (fun _ => rfl) (fun u_9 H locs hw_109 hP hD hS => ?_)
                obtain ⟨wk3, rr⟩ := u_9
                dsimp only at hw_109
                have hP : va_P D vwCl [(h0, .inr (11, [.int (iI (0)), .long (lI (tra)), .ref h40, .int (iI (tn)), .int (iI (nx)), .int (iI (tk)), .int (iI (pl)), .int (iI (va)), .int (iI (fl)), .ref h41, .ref h42, .ref h43, .ref h44, .ref h45, .ref h46, .ref h47, .ref h48, .ref h49, .ref h50, .ref h51, .int (iI (tc)), .ref h52, .int (iI (km)), .int (iI (bI false)), .int (iI (ta)), .int (iI (le)), .int (iI (rm9)), .int (iI (rc9)), .int (iI (fa)), .int (iI (tr)), .int (iI (ro)), .int (iI (lo))])), (h41, .inl (cI, 18, .inl (aI td))), (h42, .inl (cI, 512, .inl (aI gd))), (h43, .inl (cI, 12, .inl (aI sa))), (h46, .inl (cI, 4, .inl (aI wk3))), (h47, .inl (cI, 4, .inl (aI ot9)))] H := hP
                have hD : va_D A [(h0, .inr (11, [.int (iI (0)), .long (lI (tra)), .ref h40, .int (iI (tn)), .int (iI (nx)), .int (iI (tk)), .int (iI (pl)), .int (iI (va)), .int (iI (fl)), .ref h41, .ref h42, .ref h43, .ref h44, .ref h45, .ref h46, .ref h47, .ref h48, .ref h49, .ref h50, .ref h51, .int (iI (tc)), .ref h52, .int (iI (km)), .int (iI (bI false)), .int (iI (ta)), .int (iI (le)), .int (iI (rm9)), .int (iI (rc9)), .int (iI (fa)), .int (iI (tr)), .int (iI (ro)), .int (iI (lo))])), (h41, .inl (cI, 18, .inl (aI td))), (h42, .inl (cI, 512, .inl (aI gd))), (h43, .inl (cI, 12, .inl (aI sa))), (h46, .inl (cI, 4, .inl (aI wk3))), (h47, .inl (cI, 4, .inl (aI ot9)))] := hD
                refine j_top (fun rv_1 erv_1 => ?_)
                dsimp only at erv_1
                have hms := rep_step hW hH htu hbe hi2 hw_109
                refine lv_iconst (v := iI (-1)) hx hb dX11_meet_112 rfl ?_
                obtain ⟨one, eone⟩ : ∃ t : Int, t = if rv_1 = (-1) then 0 else 1 := ⟨_, rfl⟩
                have kone : W p l e rmX11_meet s m args below meth c H locs 0 0 Q (F0 m 121 ls [.int (iI (one))]) := by
                  refine lv_istore (lv' := [(5, .int (iI (one))), (0, .ref h0), (4, .int (iI (i)))]) hx hb dX11_meet_121 hl (by decide) rfl (fun ls hl => ?_)
                  refine lv_aload_n hx hb dX11_meet_123 rfl (lv_at hl 1 rfl) ?_
                  refine lv_aload_n hx hb dX11_meet_124 rfl (lv_at hl 1 rfl) ?_
                  refine va_get (D := D) (ci := 11) (v := .ref h47) (C := RX11) (T := TX11) (N := 32) hx hb hts UX11 hown hK hP 0 rfl rfl 15 (by decide) L32 (fun _ h9 => h9) rfl dX11_meet_125 ?_
                  refine j_mui (va_runV (As := [.ref h47]) (rest := []) ⟨hx, hb, hml, hown, hts⟩ (c_X11_stepsA l D cI cZ z h0 h47 h40 h41 h42 h43 h44 h45 h46 h47 h48 h49 h50 h51 h52 0 tra tn nx tk pl va fl tc km ta le rm9 rc9 fa tr ro lo td gd ot9 false (by first | assumption | omega) (by first | assumption | omega) (by first | assumption | omega) (by first | assumption | omega) (by first | assumption | omega) (by first | assumption | omega) (by exact hi3.2) (by rfl) H.size) (cwV 1 hts gX11_meet_X11_steps rfl rfl rfl hvX11_steps ⟨Nat.le_of_ble_eq_true rfl, Nat.le_of_ble_eq_true rfl⟩) (j_preV hP hD hK hS hZ hA [0, 1, 2, 5] rfl rfl 0 rfl rfl) rfl rfl hl.1 rfl (lv_room (Nat.le_of_ble_eq_true rfl)) dX11_meet_128 ⟨Nat.zero_le _, Nat.zero_le _⟩) hP hD hS hA [0, 1, 2, 5] rfl (fun _ => rfl) (fun u_9 H locs hw_128 hP hD hS => ?_)
                  obtain ⟨ot3, rs⟩ := u_9
                  dsimp only at hw_128
                  have hP : va_P D vwCl [(h0, .inr (11, [.int (iI (0)), .long (lI (tra)), .ref h40, .int (iI (tn)), .int (iI (nx)), .int (iI (tk)), .int (iI (pl)), .int (iI (va)), .int (iI (fl)), .ref h41, .ref h42, .ref h43, .ref h44, .ref h45, .ref h46, .ref h47, .ref h48, .ref h49, .ref h50, .ref h51, .int (iI (tc)), .ref h52, .int (iI (km)), .int (iI (bI false)), .int (iI (ta)), .int (iI (le)), .int (iI (rm9)), .int (iI (rc9)), .int (iI (fa)), .int (iI (tr)), .int (iI (ro)), .int (iI (lo))])), (h41, .inl (cI, 18, .inl (aI td))), (h42, .inl (cI, 512, .inl (aI gd))), (h43, .inl (cI, 12, .inl (aI sa))), (h46, .inl (cI, 4, .inl (aI wk3))), (h47, .inl (cI, 4, .inl (aI ot3)))] H := hP
                  have hD : va_D A [(h0, .inr (11, [.int (iI (0)), .long (lI (tra)), .ref h40, .int (iI (tn)), .int (iI (nx)), .int (iI (tk)), .int (iI (pl)), .int (iI (va)), .int (iI (fl)), .ref h41, .ref h42, .ref h43, .ref h44, .ref h45, .ref h46, .ref h47, .ref h48, .ref h49, .ref h50, .ref h51, .int (iI (tc)), .ref h52, .int (iI (km)), .int (iI (bI false)), .int (iI (ta)), .int (iI (le)), .int (iI (rm9)), .int (iI (rc9)), .int (iI (fa)), .int (iI (tr)), .int (iI (ro)), .int (iI (lo))])), (h41, .inl (cI, 18, .inl (aI td))), (h42, .inl (cI, 512, .inl (aI gd))), (h43, .inl (cI, 12, .inl (aI sa))), (h46, .inl (cI, 4, .inl (aI wk3))), (h47, .inl (cI, 4, .inl (aI ot3)))] := hD
                  refine j_top (fun rw9_1 erw9_1 => ?_)
                  dsimp only at erw9_1
                  have hmo := rep_step hW hH htu hbe hi3 hw_128
                  refine lv_iconst (v := iI (-1)) hx hb dX11_meet_131 rfl ?_
                  obtain ⟨two, etwo⟩ : ∃ t : Int, t = if rw9_1 = (-1) then 0 else 1 := ⟨_, rfl⟩
                  have ktwo : W p l e rmX11_meet s m args below meth c H locs 0 0 Q (F0 m 140 ls [.int (iI (two))]) := by
                    refine lv_istore (lv' := [(6, .int (iI (two))), (5, .int (iI (one))), (0, .ref h0), (4, .int (iI (i)))]) hx hb dX11_meet_140 hl (by decide) rfl (fun ls hl => ?_)
                    refine lv_iload hx hb dX11_meet_142 (lv_at hl 1 rfl) ?_
                    refine j_if_eq (tgt := 152) hx hb (by omega) dX11_meet_144 (by decide) (fun c_144_1 => ?_) (fun c_144_1 => ?_)
                    · refine lv_bipush (v := iI (-9)) hx hb dX11_meet_152 (by decide) ?_
                      rw [hQ]; exact jm_iret (wk3, ot3, bI false, -9) hx hb hr hlocks hS hP rfl (by (try dsimp only); rw [if_neg (by rw [hst]; decide), if_neg (by omega), me_fall hi4 (by omega) (by omega) hne (by rcases hms with w | w; (exact Or.inl (by omega)); (rcases hmo with v | v; (exact Or.inr (by omega)); (exact False.elim (by omega))))]; exact ⟨Or.inr rfl, rfl⟩) dX11_meet_154
                    · refine lv_iload hx hb dX11_meet_147 (lv_at hl 0 rfl) ?_
                      refine j_if_ne (tgt := 155) hx hb (by omega) dX11_meet_149 (by decide) (fun c_149_1 => ?_) (fun c_149_1 => ?_)
                      · refine lv_iinc (v := iI (i + 1)) (lv' := [(4, .int (iI (i + 1))), (6, .int (iI (two))), (5, .int (iI (one))), (0, .ref h0)]) hx hb dX11_meet_155 hl (k := 3) rfl (iI_add _ _) (by decide) rfl (fun ls hl => ?_)
                        refine lv_goto (tgt := 63) hx hb dX11_meet_158 (by decide) ?_
                        exact ih_63 ((i + 1)) wk3 ot3 (m9 - 1) (((stF (td 0) (td 1) gd (td 2) (td 3) (td 4)) q1)) (((stF (td 0) (td 1) gd (td 2) (td 3) (td 4)) q2)) (by exact ⟨by omega, (hms.resolve_left (fun w => by omega)).2.1, (hmo.resolve_left (fun w => by omega)).2.1, me_go hi4 (by omega) (by omega) hne⟩) (by omega) H locs hP hD hS ls (lv_sub hl [3, 0] rfl)
                      · refine lv_bipush (v := iI (-9)) hx hb dX11_meet_152 (by decide) ?_
                        rw [hQ]; exact jm_iret (wk3, ot3, bI false, -9) hx hb hr hlocks hS hP rfl (by (try dsimp only); rw [if_neg (by rw [hst]; decide), if_neg (by omega), me_fall hi4 (by omega) (by omega) hne (by rcases hms with w | w; (exact Or.inl (by omega)); (rcases hmo with v | v; (exact Or.inr (by omega)); (exact False.elim (by omega))))]; exact ⟨Or.inr rfl, rfl⟩) dX11_meet_154
                  refine j_icmp_eq (tgt := 139) hx hb (by omega) dX11_meet_132 (by decide) (fun q_3 => ?_) (fun q_3 => ?_)
                  · refine lv_iconst (v := iI (0)) hx hb dX11_meet_139 rfl ?_
                    (have q9 := ktwo; rw [etwo, if_pos q_3] at q9; exact q9)
                  · refine lv_iconst (v := iI (1)) hx hb dX11_meet_135 rfl ?_
                    refine lv_goto (tgt := 140) hx hb dX11_meet_136 (by decide) ?_
                    (have q9 := ktwo; rw [etwo, if_neg q_3] at q9; exact q9)
                refine j_icmp_eq (tgt := 120) hx hb (by omega) dX11_meet_113 (by decide) (fun q_4 => ?_) (fun q_4 => ?_)
                · refine lv_iconst (v := iI (0)) hx hb dX11_meet_120 rfl ?_
                  (have q9 := kone; rw [eone, if_pos q_4] at q9; exact q9)
                · refine lv_iconst (v := iI (1)) hx hb dX11_meet_116 rfl ?_
                  refine lv_goto (tgt := 121) hx hb dX11_meet_117 (by decide) ?_
                  (have q9 := kone; rw [eone, if_neg q_4] at q9; exact q9)
              · refine lv_iload hx hb dX11_meet_101 (lv_at hl 1 rfl) ?_
                rw [hQ]; exact jm_iret (wk9, ot9, bI false, i) hx hb hr hlocks hS hP rfl (by (try dsimp only); rw [if_neg (by rw [hst]; decide), if_neg (by omega), me_hit hi4 (by omega) (by omega) (hrs.mp ⟨by omega, by omega⟩)]; exact ⟨Or.inr rfl, rfl⟩) dX11_meet_103
      exact loop_63 _ 0 wkf (upZ (upZ (upZ (upZ ot 0 x) 1 y) 2 d) 3 0) 4097 ((stdX (td 0) (sa 0) (sa 1) (sa 2) (sa 3))) ((((td 0 * y + x) * 8 + d) * 9 + 0)) (by exact ⟨by omega, hrp0, isSt_rep hW hH c_12 (by simp [upZ]) (by simp [upZ]) (by simp [upZ]) (by simp [upZ]), rfl⟩) (Nat.lt_succ_self _) H locs hP hD hS ls (lv_sub hl [1, 0] rfl)
    · refine lv_bipush (v := iI (-2)) hx hb dX11_meet_25 (by decide) ?_
      rw [hQ]; exact jm_iret (wk, ot, bI dr, -2) hx hb hr hlocks hS hP rfl (by (try dsimp only); rw [if_neg (by rw [hst]; decide), if_pos (by omega)]; exact ⟨Or.inl rfl, rfl⟩) dX11_meet_27
  · refine lv_iconst (v := iI (-1)) hx hb dX11_meet_15 rfl ?_
    rw [hQ]; exact jm_iret (wk, ot, bI dr, -1) hx hb hr hlocks hS hP rfl (by (try dsimp only); rw [if_pos (by rw [isSt_mA hW hH]; exact decide_eq_false c_12)]; exact ⟨Or.inl rfl, rfl⟩) dX11_meet_16
