abbrev rmX11_track : Room := { frames := 1, cells := 0, slots := 0, locals := 22 }
set_option maxHeartbeats 4000000 in
set_option maxRecDepth 100000 in
theorem c_X11_track (l : Launch) (D : va_G) (cI cZ : ClassId) (z : jZT) (h0 h40 h41 h42 h43 h44 h45 h46 h47 h48 h49 h50 h51 h52 : Nat) (c9 th tra tn nx tk pl va fl tc km ta le rm9 rc9 fa tr ro lo : Int) (td mt : Int → Int) (dr : Bool) (hW : 3 ≤ td 0 ∧ td 0 ≤ 16) (hH : 3 ≤ td 1 ∧ td 1 ≤ 16) (htk : 0 ≤ tc ∧ tc ≤ 16) (hc : -2147483648 ≤ c9 ∧ c9 < 2147483648) : jMu (S := Int × (Int → Int) × Int) l yX11_track wsX11_track rmX11_track [.ref h0, .int (iI (c9))] D cI cZ z [(h0, .inr (11, [.int (iI (th)), .long (lI (tra)), .ref h40, .int (iI (tn)), .int (iI (nx)), .int (iI (tk)), .int (iI (pl)), .int (iI (va)), .int (iI (fl)), .ref h41, .ref h42, .ref h43, .ref h44, .ref h45, .ref h46, .ref h47, .ref h48, .ref h49, .ref h50, .ref h51, .int (iI (tc)), .ref h52, .int (iI (km)), .int (iI (bI dr)), .int (iI (ta)), .int (iI (le)), .int (iI (rm9)), .int (iI (rc9)), .int (iI (fa)), .int (iI (tr)), .int (iI (ro)), .int (iI (lo))])), (h41, .inl (cI, 18, .inl (aI td))), (h51, .inl (cI, 16, .inl (aI mt)))] (fun u => some (.int (iI (u.2.2)))) (fun u => if c9 < 0 ∨ td 0 * td 1 ≤ c9 then u.2.2 = -1 ∧ u.1 = tc ∧ u.2.1 = mt else if tc = 16 then u.2.2 = -3 ∧ u.1 = tc ∧ u.2.1 = mt else u.2.2 = tc + 1 ∧ u.1 = tc + 1 ∧ u.2.1 = upZ mt tc c9) (fun u => [(h0, .inr (11, [.int (iI (0)), .long (lI (tra)), .ref h40, .int (iI (tn)), .int (iI (nx)), .int (iI (tk)), .int (iI (pl)), .int (iI (va)), .int (iI (fl)), .ref h41, .ref h42, .ref h43, .ref h44, .ref h45, .ref h46, .ref h47, .ref h48, .ref h49, .ref h50, .ref h51, .int (iI (u.1)), .ref h52, .int (iI (km)), .int (iI (bI dr)), .int (iI (ta)), .int (iI (le)), .int (iI (rm9)), .int (iI (rc9)), .int (iI (fa)), .int (iI (tr)), .int (iI (ro)), .int (iI (lo))])), (h41, .inl (cI, 18, .inl (aI td))), (h51, .inl (cI, 16, .inl (aI u.2.1)))]) := by
  refine jMu_of (cc := cX11_track) (n := 2) (ret := (some .int)) (by decide) rfl (Nat.le_of_ble_eq_true rfl) ?_
  intro p e s m below meth c A ls args Q hQ F hA hZ hP hK hD hS hl
  obtain ⟨hx, hb, hr, hml, hown, hts, hlocks⟩ := F
  have hown : s.vm.findClass RX11 = some m.cls := hown
  have hl : lv_has ls 2 [(0, .ref h0), (1, .int (iI (c9)))] := hl
  have L56 := hts (.fieldLink RX11 56 "TinMouseModel" "thrown" "I") (by decide +kernel)
  have L125 := hts (.fieldLink RX11 125 "TinMouseModel" "tracks" "I") (by decide +kernel)
  have L44 := hts (.fieldLink RX11 44 "TinMouseModel" "track" "[I") (by decide +kernel)
  have UX11 : ∀ w ∈ wsX110, w ∈ wsX11_track := fun w h => List.mem_cons_of_mem _ (List.mem_append_right _ h)
  have hwh := wh_rng hW hH
  refine lv_aload_n hx hb dX11_track_0 rfl (lv_at hl 0 rfl) ?_
  refine lv_iconst (v := iI (0)) hx hb dX11_track_1 rfl ?_
  refine va_put (D := D) (ci := 11) (v := .int (iI (0))) (ty := .int) (C := RX11) (T := TX11) (N := 32) hx hb hts UX11 tyX11 tyX11_ok nmX11 hown hK hP hD hS 0 rfl rfl 0 (by decide) L56 (fun _ h9 => h9) rfl rfl rfl rfl (Nat.le_of_ble_eq_true rfl) dX11_track_2 (fun H locs hP hD hS => ?_)
  have hP : va_P D vwCl [(h0, .inr (11, [.int (iI (0)), .long (lI (tra)), .ref h40, .int (iI (tn)), .int (iI (nx)), .int (iI (tk)), .int (iI (pl)), .int (iI (va)), .int (iI (fl)), .ref h41, .ref h42, .ref h43, .ref h44, .ref h45, .ref h46, .ref h47, .ref h48, .ref h49, .ref h50, .ref h51, .int (iI (tc)), .ref h52, .int (iI (km)), .int (iI (bI dr)), .int (iI (ta)), .int (iI (le)), .int (iI (rm9)), .int (iI (rc9)), .int (iI (fa)), .int (iI (tr)), .int (iI (ro)), .int (iI (lo))])), (h41, .inl (cI, 18, .inl (aI td))), (h51, .inl (cI, 16, .inl (aI mt)))] H := hP
  have hD : va_D A [(h0, .inr (11, [.int (iI (0)), .long (lI (tra)), .ref h40, .int (iI (tn)), .int (iI (nx)), .int (iI (tk)), .int (iI (pl)), .int (iI (va)), .int (iI (fl)), .ref h41, .ref h42, .ref h43, .ref h44, .ref h45, .ref h46, .ref h47, .ref h48, .ref h49, .ref h50, .ref h51, .int (iI (tc)), .ref h52, .int (iI (km)), .int (iI (bI dr)), .int (iI (ta)), .int (iI (le)), .int (iI (rm9)), .int (iI (rc9)), .int (iI (fa)), .int (iI (tr)), .int (iI (ro)), .int (iI (lo))])), (h41, .inl (cI, 18, .inl (aI td))), (h51, .inl (cI, 16, .inl (aI mt)))] := hD
  refine lv_iload_n hx hb dX11_track_5 rfl (lv_at hl 1 rfl) ?_
  refine lv_iconst (v := iI (0)) hx hb dX11_track_6 rfl ?_
  refine lv_aload_n hx hb dX11_track_7 rfl (lv_at hl 0 rfl) ?_
  refine j_rd (va_runV (As := []) (rest := [.int (iI (0)), .int (iI (c9))]) ⟨hx, hb, hml, hown, hts⟩ (c_X11_cells l D cI cZ z h0 h40 h41 h42 h43 h44 h45 h46 h47 h48 h49 h50 h51 h52 0 tra tn nx tk pl va fl tc km ta le rm9 rc9 fa tr ro lo td dr  H.size) (cwV 0 hts gX11_track_X11_cells rfl rfl rfl hvX11_cells ⟨Nat.le_of_ble_eq_true rfl, Nat.le_of_ble_eq_true rfl⟩) (j_preV hP hD hK hS hZ hA [0, 1] rfl rfl 0 rfl rfl) rfl rfl hl.1 rfl (lv_room (Nat.le_of_ble_eq_true rfl)) dX11_track_8 ⟨Nat.zero_le _, Nat.zero_le _⟩) ?_
  refine lv_iconst (v := iI (1)) hx hb dX11_track_11 rfl ?_
  refine j_isub hx hb dX11_track_12 ?_
  refine j_rd (va_runS (As := [.int (iI (c9)), .int (iI (0)), .int (iI ((td 0 * td 1) - 1))]) (rest := []) ⟨hx, hb, hml, hown, hts⟩ (c_X11_in l D cI cZ z c9 0 ((td 0 * td 1) - 1) (by first | assumption | omega) (by first | assumption | omega) (by first | assumption | omega) H.size) (va_cwS 3 hts gX11_track_X11_in rfl rfl rfl hsX11_in ⟨Nat.le_of_ble_eq_true rfl, Nat.le_of_ble_eq_true rfl⟩) (j_preS hP hD hK hS hZ hA [] rfl rfl) rfl rfl hl.1 rfl (lv_room (Nat.le_of_ble_eq_true rfl)) dX11_track_13 ⟨Nat.zero_le _, Nat.zero_le _⟩) ?_
  refine j_ifne_d (tgt := 21) hx hb dX11_track_16 (by decide) (fun c_16 => ?_) (fun c_16 => ?_)
  · refine lv_aload_n hx hb dX11_track_21 rfl (lv_at hl 0 rfl) ?_
    refine va_get (D := D) (ci := 11) (v := .int (iI (tc))) (C := RX11) (T := TX11) (N := 32) hx hb hts UX11 hown hK hP 0 rfl rfl 20 (by decide) L125 (fun _ h9 => h9) rfl dX11_track_22 ?_
    refine lv_bipush (v := iI (16)) hx hb dX11_track_25 (by decide) ?_
    refine j_icmp_ne (tgt := 33) hx hb (by omega) dX11_track_27 (by decide) (fun c_27 => ?_) (fun c_27 => ?_)
    · refine lv_aload_n hx hb dX11_track_33 rfl (lv_at hl 0 rfl) ?_
      refine va_get (D := D) (ci := 11) (v := .ref h51) (C := RX11) (T := TX11) (N := 32) hx hb hts UX11 hown hK hP 0 rfl rfl 19 (by decide) L44 (fun _ h9 => h9) rfl dX11_track_34 ?_
      refine lv_aload_n hx hb dX11_track_37 rfl (lv_at hl 0 rfl) ?_
      refine va_get (D := D) (ci := 11) (v := .int (iI (tc))) (C := RX11) (T := TX11) (N := 32) hx hb hts UX11 hown hK hP 0 rfl rfl 20 (by decide) L125 (fun _ h9 => h9) rfl dX11_track_38 ?_
      refine lv_iload_n hx hb dX11_track_41 rfl (lv_at hl 1 rfl) ?_
      refine j_iast hx hb hK hP hD hS 2 0 rfl rfl (by omega) dX11_track_42 (fun H locs hP hD hS => ?_)
      have hP : va_P D vwCl [(h0, .inr (11, [.int (iI (0)), .long (lI (tra)), .ref h40, .int (iI (tn)), .int (iI (nx)), .int (iI (tk)), .int (iI (pl)), .int (iI (va)), .int (iI (fl)), .ref h41, .ref h42, .ref h43, .ref h44, .ref h45, .ref h46, .ref h47, .ref h48, .ref h49, .ref h50, .ref h51, .int (iI (tc)), .ref h52, .int (iI (km)), .int (iI (bI dr)), .int (iI (ta)), .int (iI (le)), .int (iI (rm9)), .int (iI (rc9)), .int (iI (fa)), .int (iI (tr)), .int (iI (ro)), .int (iI (lo))])), (h41, .inl (cI, 18, .inl (aI td))), (h51, .inl (cI, 16, .inl (aI (upZ mt tc c9))))] H := hP
      have hD : va_D A [(h0, .inr (11, [.int (iI (0)), .long (lI (tra)), .ref h40, .int (iI (tn)), .int (iI (nx)), .int (iI (tk)), .int (iI (pl)), .int (iI (va)), .int (iI (fl)), .ref h41, .ref h42, .ref h43, .ref h44, .ref h45, .ref h46, .ref h47, .ref h48, .ref h49, .ref h50, .ref h51, .int (iI (tc)), .ref h52, .int (iI (km)), .int (iI (bI dr)), .int (iI (ta)), .int (iI (le)), .int (iI (rm9)), .int (iI (rc9)), .int (iI (fa)), .int (iI (tr)), .int (iI (ro)), .int (iI (lo))])), (h41, .inl (cI, 18, .inl (aI td))), (h51, .inl (cI, 16, .inl (aI (upZ mt tc c9))))] := hD
      refine lv_aload_n hx hb dX11_track_43 rfl (lv_at hl 0 rfl) ?_
      refine lv_dup hx hb dX11_track_44 rfl ?_
      refine va_get (D := D) (ci := 11) (v := .int (iI (tc))) (C := RX11) (T := TX11) (N := 32) hx hb hts UX11 hown hK hP 0 rfl rfl 20 (by decide) L125 (fun _ h9 => h9) rfl dX11_track_45 ?_
      refine lv_iconst (v := iI (1)) hx hb dX11_track_48 rfl ?_
      refine j_iadd hx hb dX11_track_49 ?_
      refine va_put (D := D) (ci := 11) (v := .int (iI (tc + 1))) (ty := .int) (C := RX11) (T := TX11) (N := 32) hx hb hts UX11 tyX11 tyX11_ok nmX11 hown hK hP hD hS 0 rfl rfl 20 (by decide) L125 (fun _ h9 => h9) rfl rfl rfl rfl (Nat.le_of_ble_eq_true rfl) dX11_track_50 (fun H locs hP hD hS => ?_)
      have hP : va_P D vwCl [(h0, .inr (11, [.int (iI (0)), .long (lI (tra)), .ref h40, .int (iI (tn)), .int (iI (nx)), .int (iI (tk)), .int (iI (pl)), .int (iI (va)), .int (iI (fl)), .ref h41, .ref h42, .ref h43, .ref h44, .ref h45, .ref h46, .ref h47, .ref h48, .ref h49, .ref h50, .ref h51, .int (iI (tc + 1)), .ref h52, .int (iI (km)), .int (iI (bI dr)), .int (iI (ta)), .int (iI (le)), .int (iI (rm9)), .int (iI (rc9)), .int (iI (fa)), .int (iI (tr)), .int (iI (ro)), .int (iI (lo))])), (h41, .inl (cI, 18, .inl (aI td))), (h51, .inl (cI, 16, .inl (aI (upZ mt tc c9))))] H := hP
      have hD : va_D A [(h0, .inr (11, [.int (iI (0)), .long (lI (tra)), .ref h40, .int (iI (tn)), .int (iI (nx)), .int (iI (tk)), .int (iI (pl)), .int (iI (va)), .int (iI (fl)), .ref h41, .ref h42, .ref h43, .ref h44, .ref h45, .ref h46, .ref h47, .ref h48, .ref h49, .ref h50, .ref h51, .int (iI (tc + 1)), .ref h52, .int (iI (km)), .int (iI (bI dr)), .int (iI (ta)), .int (iI (le)), .int (iI (rm9)), .int (iI (rc9)), .int (iI (fa)), .int (iI (tr)), .int (iI (ro)), .int (iI (lo))])), (h41, .inl (cI, 18, .inl (aI td))), (h51, .inl (cI, 16, .inl (aI (upZ mt tc c9))))] := hD
      refine lv_aload_n hx hb dX11_track_53 rfl (lv_at hl 0 rfl) ?_
      refine va_get (D := D) (ci := 11) (v := .int (iI (tc + 1))) (C := RX11) (T := TX11) (N := 32) hx hb hts UX11 hown hK hP 0 rfl rfl 20 (by decide) L125 (fun _ h9 => h9) rfl dX11_track_54 ?_
      rw [hQ]; exact jm_iret (tc + 1, upZ mt tc c9, tc + 1) hx hb hr hlocks hS hP rfl (by (try dsimp only); first | (rw [if_pos (by omega)]; exact ⟨rfl, rfl, rfl⟩) | (rw [if_neg (by omega), if_pos (by omega)]; exact ⟨rfl, rfl, rfl⟩) | (rw [if_neg (by omega), if_neg (by omega)]; exact ⟨rfl, rfl, rfl⟩)) dX11_track_57
    · refine lv_bipush (v := iI (-3)) hx hb dX11_track_30 (by decide) ?_
      rw [hQ]; exact jm_iret (tc, mt, -3) hx hb hr hlocks hS hP rfl (by (try dsimp only); first | (rw [if_pos (by omega)]; exact ⟨rfl, rfl, rfl⟩) | (rw [if_neg (by omega), if_pos (by omega)]; exact ⟨rfl, rfl, rfl⟩) | (rw [if_neg (by omega), if_neg (by omega)]; exact ⟨rfl, rfl, rfl⟩)) dX11_track_32
  · refine lv_iconst (v := iI (-1)) hx hb dX11_track_19 rfl ?_
    rw [hQ]; exact jm_iret (tc, mt, -1) hx hb hr hlocks hS hP rfl (by (try dsimp only); first | (rw [if_pos (by omega)]; exact ⟨rfl, rfl, rfl⟩) | (rw [if_neg (by omega), if_pos (by omega)]; exact ⟨rfl, rfl, rfl⟩) | (rw [if_neg (by omega), if_neg (by omega)]; exact ⟨rfl, rfl, rfl⟩)) dX11_track_20
abbrev rmX11_key : Room := { frames := 1, cells := 0, slots := 0, locals := 22 }
set_option maxHeartbeats 4000000 in
set_option maxRecDepth 100000 in
theorem c_X11_key (l : Launch) (D : va_G) (cI cZ : ClassId) (z : jZT) (h0 h40 h41 h42 h43 h44 h45 h46 h47 h48 h49 h50 h51 h52 : Nat) (t9 s9 th tra tn nx tk pl va fl tc km ta le rm9 rc9 fa tr ro lo : Int) (mk : Int → Int) (dr : Bool) (hkm : 0 ≤ km ∧ km ≤ 20) (ht9 : -2147483648 ≤ t9 ∧ t9 < 2147483648) (hs9 : -2147483648 ≤ s9 ∧ s9 < 2147483648) : jMu (S := (Int → Int) × Int × Int) l yX11_key wsX11_key rmX11_key [.ref h0, .int (iI (t9)), .int (iI (s9))] D cI cZ z [(h0, .inr (11, [.int (iI (th)), .long (lI (tra)), .ref h40, .int (iI (tn)), .int (iI (nx)), .int (iI (tk)), .int (iI (pl)), .int (iI (va)), .int (iI (fl)), .ref h41, .ref h42, .ref h43, .ref h44, .ref h45, .ref h46, .ref h47, .ref h48, .ref h49, .ref h50, .ref h51, .int (iI (tc)), .ref h52, .int (iI (km)), .int (iI (bI dr)), .int (iI (ta)), .int (iI (le)), .int (iI (rm9)), .int (iI (rc9)), .int (iI (fa)), .int (iI (tr)), .int (iI (ro)), .int (iI (lo))])), (h52, .inl (cI, 40, .inl (aI mk)))] (fun u => some (.int (iI (u.2.2)))) (fun u => if t9 < 1 ∨ 9 < t9 ∨ s9 < 0 ∨ 999 < s9 then u.2.2 = -1 ∧ u.1 = mk ∧ u.2.1 = km else if km = 20 then u.2.2 = -3 ∧ u.1 = mk ∧ u.2.1 = km else u.2.2 = km + 1 ∧ u.1 = upZ (upZ mk (2 * km) t9) (2 * km + 1) s9 ∧ u.2.1 = km + 1) (fun u => [(h0, .inr (11, [.int (iI (0)), .long (lI (tra)), .ref h40, .int (iI (tn)), .int (iI (nx)), .int (iI (tk)), .int (iI (pl)), .int (iI (va)), .int (iI (fl)), .ref h41, .ref h42, .ref h43, .ref h44, .ref h45, .ref h46, .ref h47, .ref h48, .ref h49, .ref h50, .ref h51, .int (iI (tc)), .ref h52, .int (iI (u.2.1)), .int (iI (bI dr)), .int (iI (ta)), .int (iI (le)), .int (iI (rm9)), .int (iI (rc9)), .int (iI (fa)), .int (iI (tr)), .int (iI (ro)), .int (iI (lo))])), (h52, .inl (cI, 40, .inl (aI u.1)))]) := by
  refine jMu_of (cc := cX11_key) (n := 3) (ret := (some .int)) (by decide) rfl (Nat.le_of_ble_eq_true rfl) ?_
  intro p e s m below meth c A ls args Q hQ F hA hZ hP hK hD hS hl
  obtain ⟨hx, hb, hr, hml, hown, hts, hlocks⟩ := F
  have hown : s.vm.findClass RX11 = some m.cls := hown
  have hl : lv_has ls 3 [(0, .ref h0), (1, .int (iI (t9))), (2, .int (iI (s9)))] := hl
  have L56 := hts (.fieldLink RX11 56 "TinMouseModel" "thrown" "I") (by decide +kernel)
  have L241 := hts (.fieldLink RX11 241 "TinMouseModel" "keyMany" "I") (by decide +kernel)
  have L47 := hts (.fieldLink RX11 47 "TinMouseModel" "keys" "[I") (by decide +kernel)
  have UX11 : ∀ w ∈ wsX110, w ∈ wsX11_key := fun w h => List.mem_cons_of_mem _ (List.mem_append_right _ h)
  refine lv_aload_n hx hb dX11_key_0 rfl (lv_at hl 0 rfl) ?_
  refine lv_iconst (v := iI (0)) hx hb dX11_key_1 rfl ?_
  refine va_put (D := D) (ci := 11) (v := .int (iI (0))) (ty := .int) (C := RX11) (T := TX11) (N := 32) hx hb hts UX11 tyX11 tyX11_ok nmX11 hown hK hP hD hS 0 rfl rfl 0 (by decide) L56 (fun _ h9 => h9) rfl rfl rfl rfl (Nat.le_of_ble_eq_true rfl) dX11_key_2 (fun H locs hP hD hS => ?_)
  have hP : va_P D vwCl [(h0, .inr (11, [.int (iI (0)), .long (lI (tra)), .ref h40, .int (iI (tn)), .int (iI (nx)), .int (iI (tk)), .int (iI (pl)), .int (iI (va)), .int (iI (fl)), .ref h41, .ref h42, .ref h43, .ref h44, .ref h45, .ref h46, .ref h47, .ref h48, .ref h49, .ref h50, .ref h51, .int (iI (tc)), .ref h52, .int (iI (km)), .int (iI (bI dr)), .int (iI (ta)), .int (iI (le)), .int (iI (rm9)), .int (iI (rc9)), .int (iI (fa)), .int (iI (tr)), .int (iI (ro)), .int (iI (lo))])), (h52, .inl (cI, 40, .inl (aI mk)))] H := hP
  have hD : va_D A [(h0, .inr (11, [.int (iI (0)), .long (lI (tra)), .ref h40, .int (iI (tn)), .int (iI (nx)), .int (iI (tk)), .int (iI (pl)), .int (iI (va)), .int (iI (fl)), .ref h41, .ref h42, .ref h43, .ref h44, .ref h45, .ref h46, .ref h47, .ref h48, .ref h49, .ref h50, .ref h51, .int (iI (tc)), .ref h52, .int (iI (km)), .int (iI (bI dr)), .int (iI (ta)), .int (iI (le)), .int (iI (rm9)), .int (iI (rc9)), .int (iI (fa)), .int (iI (tr)), .int (iI (ro)), .int (iI (lo))])), (h52, .inl (cI, 40, .inl (aI mk)))] := hD
  refine lv_iload_n hx hb dX11_key_5 rfl (lv_at hl 1 rfl) ?_
  refine lv_iconst (v := iI (1)) hx hb dX11_key_6 rfl ?_
  refine lv_bipush (v := iI (9)) hx hb dX11_key_7 (by decide) ?_
  refine j_rd (va_runS (As := [.int (iI (t9)), .int (iI (1)), .int (iI (9))]) (rest := []) ⟨hx, hb, hml, hown, hts⟩ (c_X11_in l D cI cZ z t9 1 9 (by first | assumption | omega) (by first | assumption | omega) (by first | assumption | omega) H.size) (va_cwS 3 hts gX11_key_X11_in rfl rfl rfl hsX11_in ⟨Nat.le_of_ble_eq_true rfl, Nat.le_of_ble_eq_true rfl⟩) (j_preS hP hD hK hS hZ hA [] rfl rfl) rfl rfl hl.1 rfl (lv_room (Nat.le_of_ble_eq_true rfl)) dX11_key_9 ⟨Nat.zero_le _, Nat.zero_le _⟩) ?_
  refine j_ifeq_d (tgt := 26) hx hb dX11_key_12 (by decide) (fun c_12 => ?_) (fun c_12 => ?_)
  · refine lv_iconst (v := iI (-1)) hx hb dX11_key_26 rfl ?_
    rw [hQ]; exact jm_iret (mk, km, -1) hx hb hr hlocks hS hP rfl (by (try dsimp only); first | (rw [if_pos (by omega)]; exact ⟨rfl, rfl, rfl⟩) | (rw [if_neg (by omega), if_pos (by omega)]; exact ⟨rfl, rfl, rfl⟩) | (rw [if_neg (by omega), if_neg (by omega)]; exact ⟨rfl, rfl, rfl⟩)) dX11_key_27
  · refine lv_iload_n hx hb dX11_key_15 rfl (lv_at hl 2 rfl) ?_
    refine lv_iconst (v := iI (0)) hx hb dX11_key_16 rfl ?_
    refine lv_sipush (v := iI (999)) hx hb dX11_key_17 (by decide) ?_
    refine j_rd (va_runS (As := [.int (iI (s9)), .int (iI (0)), .int (iI (999))]) (rest := []) ⟨hx, hb, hml, hown, hts⟩ (c_X11_in l D cI cZ z s9 0 999 (by first | assumption | omega) (by first | assumption | omega) (by first | assumption | omega) H.size) (va_cwS 3 hts gX11_key_X11_in rfl rfl rfl hsX11_in ⟨Nat.le_of_ble_eq_true rfl, Nat.le_of_ble_eq_true rfl⟩) (j_preS hP hD hK hS hZ hA [] rfl rfl) rfl rfl hl.1 rfl (lv_room (Nat.le_of_ble_eq_true rfl)) dX11_key_20 ⟨Nat.zero_le _, Nat.zero_le _⟩) ?_
    refine j_ifne_d (tgt := 28) hx hb dX11_key_23 (by decide) (fun c_23 => ?_) (fun c_23 => ?_)
    · refine lv_aload_n hx hb dX11_key_28 rfl (lv_at hl 0 rfl) ?_
      refine va_get (D := D) (ci := 11) (v := .int (iI (km))) (C := RX11) (T := TX11) (N := 32) hx hb hts UX11 hown hK hP 0 rfl rfl 22 (by decide) L241 (fun _ h9 => h9) rfl dX11_key_29 ?_
      refine lv_bipush (v := iI (20)) hx hb dX11_key_32 (by decide) ?_
      refine j_icmp_ne (tgt := 40) hx hb (by omega) dX11_key_34 (by decide) (fun c_34 => ?_) (fun c_34 => ?_)
      · refine lv_aload_n hx hb dX11_key_40 rfl (lv_at hl 0 rfl) ?_
        refine va_get (D := D) (ci := 11) (v := .ref h52) (C := RX11) (T := TX11) (N := 32) hx hb hts UX11 hown hK hP 0 rfl rfl 21 (by decide) L47 (fun _ h9 => h9) rfl dX11_key_41 ?_
        refine lv_iconst (v := iI (2)) hx hb dX11_key_44 rfl ?_
        refine lv_aload_n hx hb dX11_key_45 rfl (lv_at hl 0 rfl) ?_
        refine va_get (D := D) (ci := 11) (v := .int (iI (km))) (C := RX11) (T := TX11) (N := 32) hx hb hts UX11 hown hK hP 0 rfl rfl 22 (by decide) L241 (fun _ h9 => h9) rfl dX11_key_46 ?_
        refine j_imul hx hb dX11_key_49 ?_
        refine lv_iload_n hx hb dX11_key_50 rfl (lv_at hl 1 rfl) ?_
        refine j_iast hx hb hK hP hD hS 1 0 rfl rfl (by omega) dX11_key_51 (fun H locs hP hD hS => ?_)
        have hP : va_P D vwCl [(h0, .inr (11, [.int (iI (0)), .long (lI (tra)), .ref h40, .int (iI (tn)), .int (iI (nx)), .int (iI (tk)), .int (iI (pl)), .int (iI (va)), .int (iI (fl)), .ref h41, .ref h42, .ref h43, .ref h44, .ref h45, .ref h46, .ref h47, .ref h48, .ref h49, .ref h50, .ref h51, .int (iI (tc)), .ref h52, .int (iI (km)), .int (iI (bI dr)), .int (iI (ta)), .int (iI (le)), .int (iI (rm9)), .int (iI (rc9)), .int (iI (fa)), .int (iI (tr)), .int (iI (ro)), .int (iI (lo))])), (h52, .inl (cI, 40, .inl (aI (upZ mk (2 * km) t9))))] H := hP
        have hD : va_D A [(h0, .inr (11, [.int (iI (0)), .long (lI (tra)), .ref h40, .int (iI (tn)), .int (iI (nx)), .int (iI (tk)), .int (iI (pl)), .int (iI (va)), .int (iI (fl)), .ref h41, .ref h42, .ref h43, .ref h44, .ref h45, .ref h46, .ref h47, .ref h48, .ref h49, .ref h50, .ref h51, .int (iI (tc)), .ref h52, .int (iI (km)), .int (iI (bI dr)), .int (iI (ta)), .int (iI (le)), .int (iI (rm9)), .int (iI (rc9)), .int (iI (fa)), .int (iI (tr)), .int (iI (ro)), .int (iI (lo))])), (h52, .inl (cI, 40, .inl (aI (upZ mk (2 * km) t9))))] := hD
        refine lv_aload_n hx hb dX11_key_52 rfl (lv_at hl 0 rfl) ?_
        refine va_get (D := D) (ci := 11) (v := .ref h52) (C := RX11) (T := TX11) (N := 32) hx hb hts UX11 hown hK hP 0 rfl rfl 21 (by decide) L47 (fun _ h9 => h9) rfl dX11_key_53 ?_
        refine lv_iconst (v := iI (2)) hx hb dX11_key_56 rfl ?_
        refine lv_aload_n hx hb dX11_key_57 rfl (lv_at hl 0 rfl) ?_
        refine va_get (D := D) (ci := 11) (v := .int (iI (km))) (C := RX11) (T := TX11) (N := 32) hx hb hts UX11 hown hK hP 0 rfl rfl 22 (by decide) L241 (fun _ h9 => h9) rfl dX11_key_58 ?_
        refine j_imul hx hb dX11_key_61 ?_
        refine lv_iconst (v := iI (1)) hx hb dX11_key_62 rfl ?_
        refine j_iadd hx hb dX11_key_63 ?_
        refine lv_iload_n hx hb dX11_key_64 rfl (lv_at hl 2 rfl) ?_
        refine j_iast hx hb hK hP hD hS 1 0 rfl rfl (by omega) dX11_key_65 (fun H locs hP hD hS => ?_)
        have hP : va_P D vwCl [(h0, .inr (11, [.int (iI (0)), .long (lI (tra)), .ref h40, .int (iI (tn)), .int (iI (nx)), .int (iI (tk)), .int (iI (pl)), .int (iI (va)), .int (iI (fl)), .ref h41, .ref h42, .ref h43, .ref h44, .ref h45, .ref h46, .ref h47, .ref h48, .ref h49, .ref h50, .ref h51, .int (iI (tc)), .ref h52, .int (iI (km)), .int (iI (bI dr)), .int (iI (ta)), .int (iI (le)), .int (iI (rm9)), .int (iI (rc9)), .int (iI (fa)), .int (iI (tr)), .int (iI (ro)), .int (iI (lo))])), (h52, .inl (cI, 40, .inl (aI (upZ (upZ mk (2 * km) t9) ((2 * km) + 1) s9))))] H := hP
        have hD : va_D A [(h0, .inr (11, [.int (iI (0)), .long (lI (tra)), .ref h40, .int (iI (tn)), .int (iI (nx)), .int (iI (tk)), .int (iI (pl)), .int (iI (va)), .int (iI (fl)), .ref h41, .ref h42, .ref h43, .ref h44, .ref h45, .ref h46, .ref h47, .ref h48, .ref h49, .ref h50, .ref h51, .int (iI (tc)), .ref h52, .int (iI (km)), .int (iI (bI dr)), .int (iI (ta)), .int (iI (le)), .int (iI (rm9)), .int (iI (rc9)), .int (iI (fa)), .int (iI (tr)), .int (iI (ro)), .int (iI (lo))])), (h52, .inl (cI, 40, .inl (aI (upZ (upZ mk (2 * km) t9) ((2 * km) + 1) s9))))] := hD
        refine lv_aload_n hx hb dX11_key_66 rfl (lv_at hl 0 rfl) ?_
        refine lv_dup hx hb dX11_key_67 rfl ?_
        refine va_get (D := D) (ci := 11) (v := .int (iI (km))) (C := RX11) (T := TX11) (N := 32) hx hb hts UX11 hown hK hP 0 rfl rfl 22 (by decide) L241 (fun _ h9 => h9) rfl dX11_key_68 ?_
        refine lv_iconst (v := iI (1)) hx hb dX11_key_71 rfl ?_
        refine j_iadd hx hb dX11_key_72 ?_
        refine va_put (D := D) (ci := 11) (v := .int (iI (km + 1))) (ty := .int) (C := RX11) (T := TX11) (N := 32) hx hb hts UX11 tyX11 tyX11_ok nmX11 hown hK hP hD hS 0 rfl rfl 22 (by decide) L241 (fun _ h9 => h9) rfl rfl rfl rfl (Nat.le_of_ble_eq_true rfl) dX11_key_73 (fun H locs hP hD hS => ?_)
        have hP : va_P D vwCl [(h0, .inr (11, [.int (iI (0)), .long (lI (tra)), .ref h40, .int (iI (tn)), .int (iI (nx)), .int (iI (tk)), .int (iI (pl)), .int (iI (va)), .int (iI (fl)), .ref h41, .ref h42, .ref h43, .ref h44, .ref h45, .ref h46, .ref h47, .ref h48, .ref h49, .ref h50, .ref h51, .int (iI (tc)), .ref h52, .int (iI (km + 1)), .int (iI (bI dr)), .int (iI (ta)), .int (iI (le)), .int (iI (rm9)), .int (iI (rc9)), .int (iI (fa)), .int (iI (tr)), .int (iI (ro)), .int (iI (lo))])), (h52, .inl (cI, 40, .inl (aI (upZ (upZ mk (2 * km) t9) ((2 * km) + 1) s9))))] H := hP
        have hD : va_D A [(h0, .inr (11, [.int (iI (0)), .long (lI (tra)), .ref h40, .int (iI (tn)), .int (iI (nx)), .int (iI (tk)), .int (iI (pl)), .int (iI (va)), .int (iI (fl)), .ref h41, .ref h42, .ref h43, .ref h44, .ref h45, .ref h46, .ref h47, .ref h48, .ref h49, .ref h50, .ref h51, .int (iI (tc)), .ref h52, .int (iI (km + 1)), .int (iI (bI dr)), .int (iI (ta)), .int (iI (le)), .int (iI (rm9)), .int (iI (rc9)), .int (iI (fa)), .int (iI (tr)), .int (iI (ro)), .int (iI (lo))])), (h52, .inl (cI, 40, .inl (aI (upZ (upZ mk (2 * km) t9) ((2 * km) + 1) s9))))] := hD
        refine lv_aload_n hx hb dX11_key_76 rfl (lv_at hl 0 rfl) ?_
        refine va_get (D := D) (ci := 11) (v := .int (iI (km + 1))) (C := RX11) (T := TX11) (N := 32) hx hb hts UX11 hown hK hP 0 rfl rfl 22 (by decide) L241 (fun _ h9 => h9) rfl dX11_key_77 ?_
        rw [hQ]; exact jm_iret (upZ (upZ mk (2 * km) t9) ((2 * km) + 1) s9, km + 1, km + 1) hx hb hr hlocks hS hP rfl (by (try dsimp only); first | (rw [if_pos (by omega)]; exact ⟨rfl, rfl, rfl⟩) | (rw [if_neg (by omega), if_pos (by omega)]; exact ⟨rfl, rfl, rfl⟩) | (rw [if_neg (by omega), if_neg (by omega)]; exact ⟨rfl, rfl, rfl⟩)) dX11_key_80
      · refine lv_bipush (v := iI (-3)) hx hb dX11_key_37 (by decide) ?_
        rw [hQ]; exact jm_iret (mk, km, -3) hx hb hr hlocks hS hP rfl (by (try dsimp only); first | (rw [if_pos (by omega)]; exact ⟨rfl, rfl, rfl⟩) | (rw [if_neg (by omega), if_pos (by omega)]; exact ⟨rfl, rfl, rfl⟩) | (rw [if_neg (by omega), if_neg (by omega)]; exact ⟨rfl, rfl, rfl⟩)) dX11_key_39
    · refine lv_iconst (v := iI (-1)) hx hb dX11_key_26 rfl ?_
      rw [hQ]; exact jm_iret (mk, km, -1) hx hb hr hlocks hS hP rfl (by (try dsimp only); first | (rw [if_pos (by omega)]; exact ⟨rfl, rfl, rfl⟩) | (rw [if_neg (by omega), if_pos (by omega)]; exact ⟨rfl, rfl, rfl⟩) | (rw [if_neg (by omega), if_neg (by omega)]; exact ⟨rfl, rfl, rfl⟩)) dX11_key_27
theorem hsX11_startMany : yX11_startMany.cls ≠ "java/lang/invoke/MethodHandle" ∧ yX11_startMany.cls ≠ "java/lang/invoke/VarHandle" ∧ (parseMethodDescriptor yX11_startMany.desc).map (fun d => d.parameters.length) = some 0 := by decide +kernel
theorem hvX11_startMany : yX11_startMany.cls = RX11 ∧ yX11_startMany.cls ≠ "java/lang/invoke/MethodHandle" ∧ yX11_startMany.cls ≠ "java/lang/invoke/VarHandle" ∧ (parseMethodDescriptor yX11_startMany.desc).map (fun d => d.parameters.length) = some 0 := ⟨rfl, hsX11_startMany⟩
abbrev rmX11_count : Room := { frames := 2, cells := 0, slots := 0, locals := 42 }
set_option maxHeartbeats 4000000 in
set_option maxRecDepth 100000 in
theorem c_X11_count (l : Launch) (D : va_G) (cI cZ : ClassId) (z : jZT) (h0 h40 h41 h42 h43 h44 h45 h46 h47 h48 h49 h50 h51 h52 : Nat) (w th tra tn nx tk pl va fl tc km ta le rm9 rc9 fa tr ro lo : Int) (td gd : Int → Int) (dr : Bool) (hW : 3 ≤ td 0 ∧ td 0 ≤ 16) (hH : 3 ≤ td 1 ∧ td 1 ≤ 16) (hg : ∀ j : Int, 0 ≤ j → j < 256 → 0 ≤ gd j ∧ gd j ≤ 2) (hw : -2147483648 ≤ w ∧ w < 2147483648) : jMu (S := Int) l yX11_count wsX11_count rmX11_count [.ref h0, .int (iI (w))] D cI cZ z [(h0, .inr (11, [.int (iI (th)), .long (lI (tra)), .ref h40, .int (iI (tn)), .int (iI (nx)), .int (iI (tk)), .int (iI (pl)), .int (iI (va)), .int (iI (fl)), .ref h41, .ref h42, .ref h43, .ref h44, .ref h45, .ref h46, .ref h47, .ref h48, .ref h49, .ref h50, .ref h51, .int (iI (tc)), .ref h52, .int (iI (km)), .int (iI (bI dr)), .int (iI (ta)), .int (iI (le)), .int (iI (rm9)), .int (iI (rc9)), .int (iI (fa)), .int (iI (tr)), .int (iI (ro)), .int (iI (lo))])), (h41, .inl (cI, 18, .inl (aI td))), (h42, .inl (cI, 512, .inl (aI gd)))] (fun u => some (.int (iI (u)))) (fun u => u = cntF w (td 0) (td 1) gd tc km tn) (fun u => [(h0, .inr (11, [.int (iI (0)), .long (lI (tra)), .ref h40, .int (iI (tn)), .int (iI (nx)), .int (iI (tk)), .int (iI (pl)), .int (iI (va)), .int (iI (fl)), .ref h41, .ref h42, .ref h43, .ref h44, .ref h45, .ref h46, .ref h47, .ref h48, .ref h49, .ref h50, .ref h51, .int (iI (tc)), .ref h52, .int (iI (km)), .int (iI (bI dr)), .int (iI (ta)), .int (iI (le)), .int (iI (rm9)), .int (iI (rc9)), .int (iI (fa)), .int (iI (tr)), .int (iI (ro)), .int (iI (lo))])), (h41, .inl (cI, 18, .inl (aI td))), (h42, .inl (cI, 512, .inl (aI gd)))]) := by
  refine jMu_of (cc := cX11_count) (n := 5) (ret := (some .int)) (by decide) rfl (Nat.le_of_ble_eq_true rfl) ?_
  intro p e s m below meth c A ls args Q hQ F hA hZ hP hK hD hS hl
  obtain ⟨hx, hb, hr, hml, hown, hts, hlocks⟩ := F
  have hown : s.vm.findClass RX11 = some m.cls := hown
  have hl : lv_has ls 5 [(0, .ref h0), (1, .int (iI (w)))] := hl
  have L56 := hts (.fieldLink RX11 56 "TinMouseModel" "thrown" "I") (by decide +kernel)
  have L64 := hts (.fieldLink RX11 64 "TinMouseModel" "typed" "I") (by decide +kernel)
  have L241 := hts (.fieldLink RX11 241 "TinMouseModel" "keyMany" "I") (by decide +kernel)
  have L125 := hts (.fieldLink RX11 125 "TinMouseModel" "tracks" "I") (by decide +kernel)
  have L16 := hts (.fieldLink RX11 16 "TinMouseModel" "grid" "[I") (by decide +kernel)
  have UX11 : ∀ w ∈ wsX110, w ∈ wsX11_count := fun w h => List.mem_cons_of_mem _ (List.mem_append_right _ h)
  have hwh := wh_rng hW hH
  refine lv_aload_n hx hb dX11_count_0 rfl (lv_at hl 0 rfl) ?_
  refine lv_iconst (v := iI (0)) hx hb dX11_count_1 rfl ?_
  refine va_put (D := D) (ci := 11) (v := .int (iI (0))) (ty := .int) (C := RX11) (T := TX11) (N := 32) hx hb hts UX11 tyX11 tyX11_ok nmX11 hown hK hP hD hS 0 rfl rfl 0 (by decide) L56 (fun _ h9 => h9) rfl rfl rfl rfl (Nat.le_of_ble_eq_true rfl) dX11_count_2 (fun H locs hP hD hS => ?_)
  have hP : va_P D vwCl [(h0, .inr (11, [.int (iI (0)), .long (lI (tra)), .ref h40, .int (iI (tn)), .int (iI (nx)), .int (iI (tk)), .int (iI (pl)), .int (iI (va)), .int (iI (fl)), .ref h41, .ref h42, .ref h43, .ref h44, .ref h45, .ref h46, .ref h47, .ref h48, .ref h49, .ref h50, .ref h51, .int (iI (tc)), .ref h52, .int (iI (km)), .int (iI (bI dr)), .int (iI (ta)), .int (iI (le)), .int (iI (rm9)), .int (iI (rc9)), .int (iI (fa)), .int (iI (tr)), .int (iI (ro)), .int (iI (lo))])), (h41, .inl (cI, 18, .inl (aI td))), (h42, .inl (cI, 512, .inl (aI gd)))] H := hP
  have hD : va_D A [(h0, .inr (11, [.int (iI (0)), .long (lI (tra)), .ref h40, .int (iI (tn)), .int (iI (nx)), .int (iI (tk)), .int (iI (pl)), .int (iI (va)), .int (iI (fl)), .ref h41, .ref h42, .ref h43, .ref h44, .ref h45, .ref h46, .ref h47, .ref h48, .ref h49, .ref h50, .ref h51, .int (iI (tc)), .ref h52, .int (iI (km)), .int (iI (bI dr)), .int (iI (ta)), .int (iI (le)), .int (iI (rm9)), .int (iI (rc9)), .int (iI (fa)), .int (iI (tr)), .int (iI (ro)), .int (iI (lo))])), (h41, .inl (cI, 18, .inl (aI td))), (h42, .inl (cI, 512, .inl (aI gd)))] := hD
  refine lv_iconst (v := iI (0)) hx hb dX11_count_5 rfl ?_
  refine lv_istore_n (lv' := [(2, .int (iI (0))), (0, .ref h0), (1, .int (iI (w)))]) hx hb dX11_count_6 rfl hl (by decide) rfl (fun ls hl => ?_)
  refine lv_iconst (v := iI (0)) hx hb dX11_count_7 rfl ?_
  refine lv_istore_n (lv' := [(3, .int (iI (0))), (2, .int (iI (0))), (0, .ref h0), (1, .int (iI (w)))]) hx hb dX11_count_8 rfl hl (by decide) rfl (fun ls hl => ?_)
  refine lv_iconst (v := iI (0)) hx hb dX11_count_9 rfl ?_
  refine lv_istore (lv' := [(4, .int (iI (0))), (3, .int (iI (0))), (2, .int (iI (0))), (0, .ref h0), (1, .int (iI (w)))]) hx hb dX11_count_10 hl (by decide) rfl (fun ls hl => ?_)
  have loop_12 : ∀ (fuel_12 : Nat) (ho9 : Int) (bo9 : Int) (c9 : Int) (n : Nat), (c9 = (n : Int) ∧ n ≤ (td 0 * td 1).toNat ∧ ho9 = coN (td 0) (td 1) gd 1 n ∧ bo9 = coN (td 0) (td 1) gd 2 n) → ((td 0 * td 1).toNat - n) < fuel_12 → ∀ (H : Heap) (locs : List Loc), va_P D vwCl [(h0, .inr (11, [.int (iI (0)), .long (lI (tra)), .ref h40, .int (iI (tn)), .int (iI (nx)), .int (iI (tk)), .int (iI (pl)), .int (iI (va)), .int (iI (fl)), .ref h41, .ref h42, .ref h43, .ref h44, .ref h45, .ref h46, .ref h47, .ref h48, .ref h49, .ref h50, .ref h51, .int (iI (tc)), .ref h52, .int (iI (km)), .int (iI (bI dr)), .int (iI (ta)), .int (iI (le)), .int (iI (rm9)), .int (iI (rc9)), .int (iI (fa)), .int (iI (tr)), .int (iI (ro)), .int (iI (lo))])), (h41, .inl (cI, 18, .inl (aI td))), (h42, .inl (cI, 512, .inl (aI gd)))] H → va_D A [(h0, .inr (11, [.int (iI (0)), .long (lI (tra)), .ref h40, .int (iI (tn)), .int (iI (nx)), .int (iI (tk)), .int (iI (pl)), .int (iI (va)), .int (iI (fl)), .ref h41, .ref h42, .ref h43, .ref h44, .ref h45, .ref h46, .ref h47, .ref h48, .ref h49, .ref h50, .ref h51, .int (iI (tc)), .ref h52, .int (iI (km)), .int (iI (bI dr)), .int (iI (ta)), .int (iI (le)), .int (iI (rm9)), .int (iI (rc9)), .int (iI (fa)), .int (iI (tr)), .int (iI (ro)), .int (iI (lo))])), (h41, .inl (cI, 18, .inl (aI td))), (h42, .inl (cI, 512, .inl (aI gd)))] → va_S A s.heap H locs → ∀ ls : Array Slot, lv_has ls 5 [(0, .ref h0), (1, .int (iI (w))), (2, .int (iI (ho9))), (3, .int (iI (bo9))), (4, .int (iI (c9)))] → W p l e rmX11_count s m args below meth c H locs 0 0 Q (F0 m 12 ls []) := by
    intro fuel_12
    induction fuel_12 with
    | zero => intro ho9 bo9 c9 n hI9 hm9; exact absurd hm9 (Nat.not_lt_zero _)
    | succ fuel_12 ih_12 =>
      intro ho9 bo9 c9 n hI_12 hm_12 H locs hP hD hS ls hl
      obtain ⟨hi1, hi2, hi3, hi4⟩ := hI_12
      refine lv_iload hx hb dX11_count_12 (lv_at hl 4 rfl) ?_
      refine lv_aload_n hx hb dX11_count_14 rfl (lv_at hl 0 rfl) ?_
      refine j_rd (va_runV (As := []) (rest := [.int (iI (c9))]) ⟨hx, hb, hml, hown, hts⟩ (c_X11_cells l D cI cZ z h0 h40 h41 h42 h43 h44 h45 h46 h47 h48 h49 h50 h51 h52 0 tra tn nx tk pl va fl tc km ta le rm9 rc9 fa tr ro lo td dr  H.size) (cwV 0 hts gX11_count_X11_cells rfl rfl rfl hvX11_cells ⟨Nat.le_of_ble_eq_true rfl, Nat.le_of_ble_eq_true rfl⟩) (j_preV hP hD hK hS hZ hA [0, 1] rfl rfl 0 rfl rfl) rfl rfl hl.1 rfl (lv_room (Nat.le_of_ble_eq_true rfl)) dX11_count_15 ⟨Nat.zero_le _, Nat.zero_le _⟩) ?_
      refine j_icmp_ge (tgt := 65) hx hb (by omega) dX11_count_18 (by decide) (fun c_18 => ?_) (fun c_18 => ?_)
      · have hnn : n = (td 0 * td 1).toNat := (by omega)
        rw [hnn] at hi3 hi4
        have hcn := coN_rng (td 0) (td 1) gd 0 (td 0 * td 1).toNat
        refine lv_iload_n hx hb dX11_count_65 rfl (lv_at hl 1 rfl) ?_
        refine j_if_ne (tgt := 79) hx hb (by omega) dX11_count_66 (by decide) (fun c_66 => ?_) (fun c_66 => ?_)
        · refine lv_iload_n hx hb dX11_count_79 rfl (lv_at hl 1 rfl) ?_
          refine lv_iconst (v := iI (1)) hx hb dX11_count_80 rfl ?_
          refine j_icmp_ne (tgt := 88) hx hb (by omega) dX11_count_81 (by decide) (fun c_81 => ?_) (fun c_81 => ?_)
          · refine lv_iload_n hx hb dX11_count_88 rfl (lv_at hl 1 rfl) ?_
            refine lv_iconst (v := iI (2)) hx hb dX11_count_89 rfl ?_
            refine j_icmp_ne (tgt := 97) hx hb (by omega) dX11_count_90 (by decide) (fun c_90 => ?_) (fun c_90 => ?_)
            · refine lv_iload_n hx hb dX11_count_97 rfl (lv_at hl 1 rfl) ?_
              refine lv_iconst (v := iI (3)) hx hb dX11_count_98 rfl ?_
              refine j_icmp_ne (tgt := 109) hx hb (by omega) dX11_count_99 (by decide) (fun c_99 => ?_) (fun c_99 => ?_)
              · refine lv_iload_n hx hb dX11_count_109 rfl (lv_at hl 1 rfl) ?_
                refine lv_iconst (v := iI (4)) hx hb dX11_count_110 rfl ?_
                refine j_icmp_ne (tgt := 121) hx hb (by omega) dX11_count_111 (by decide) (fun c_111 => ?_) (fun c_111 => ?_)
                · refine lv_iload_n hx hb dX11_count_121 rfl (lv_at hl 1 rfl) ?_
                  refine lv_iconst (v := iI (5)) hx hb dX11_count_122 rfl ?_
                  refine j_icmp_ne (tgt := 133) hx hb (by omega) dX11_count_123 (by decide) (fun c_123 => ?_) (fun c_123 => ?_)
                  · refine lv_iconst (v := iI (-1)) hx hb dX11_count_133 rfl ?_
                    rw [hQ]; exact jm_iret (-1) hx hb hr hlocks hS hP rfl (by (try dsimp only); unfold cntF; first | (rw [if_pos (by omega)]; first | (rw [show w = 0 by omega]; omega) | (rw [show w = 1 by omega]; exact hi3) | (rw [show w = 2 by omega]; exact hi4)) | (rw [if_neg (by omega)]; omega)) dX11_count_134
                  · refine lv_aload_n hx hb dX11_count_126 rfl (lv_at hl 0 rfl) ?_
                    refine va_get (D := D) (ci := 11) (v := .int (iI (tn))) (C := RX11) (T := TX11) (N := 32) hx hb hts UX11 hown hK hP 0 rfl rfl 3 (by decide) L64 (fun _ h9 => h9) rfl dX11_count_127 ?_
                    refine lv_goto (tgt := 134) hx hb dX11_count_130 (by decide) ?_
                    rw [hQ]; exact jm_iret tn hx hb hr hlocks hS hP rfl (by (try dsimp only); unfold cntF; first | (rw [if_pos (by omega)]; first | (rw [show w = 0 by omega]; omega) | (rw [show w = 1 by omega]; exact hi3) | (rw [show w = 2 by omega]; exact hi4)) | (rw [if_neg (by omega)]; omega)) dX11_count_134
                · refine lv_aload_n hx hb dX11_count_114 rfl (lv_at hl 0 rfl) ?_
                  refine va_get (D := D) (ci := 11) (v := .int (iI (km))) (C := RX11) (T := TX11) (N := 32) hx hb hts UX11 hown hK hP 0 rfl rfl 22 (by decide) L241 (fun _ h9 => h9) rfl dX11_count_115 ?_
                  refine lv_goto (tgt := 134) hx hb dX11_count_118 (by decide) ?_
                  rw [hQ]; exact jm_iret km hx hb hr hlocks hS hP rfl (by (try dsimp only); unfold cntF; first | (rw [if_pos (by omega)]; first | (rw [show w = 0 by omega]; omega) | (rw [show w = 1 by omega]; exact hi3) | (rw [show w = 2 by omega]; exact hi4)) | (rw [if_neg (by omega)]; omega)) dX11_count_134
              · refine lv_aload_n hx hb dX11_count_102 rfl (lv_at hl 0 rfl) ?_
                refine va_get (D := D) (ci := 11) (v := .int (iI (tc))) (C := RX11) (T := TX11) (N := 32) hx hb hts UX11 hown hK hP 0 rfl rfl 20 (by decide) L125 (fun _ h9 => h9) rfl dX11_count_103 ?_
                refine lv_goto (tgt := 134) hx hb dX11_count_106 (by decide) ?_
                rw [hQ]; exact jm_iret tc hx hb hr hlocks hS hP rfl (by (try dsimp only); unfold cntF; first | (rw [if_pos (by omega)]; first | (rw [show w = 0 by omega]; omega) | (rw [show w = 1 by omega]; exact hi3) | (rw [show w = 2 by omega]; exact hi4)) | (rw [if_neg (by omega)]; omega)) dX11_count_134
            · refine lv_iload_n hx hb dX11_count_93 rfl (lv_at hl 3 rfl) ?_
              refine lv_goto (tgt := 134) hx hb dX11_count_94 (by decide) ?_
              rw [hQ]; exact jm_iret bo9 hx hb hr hlocks hS hP rfl (by (try dsimp only); unfold cntF; first | (rw [if_pos (by omega)]; first | (rw [show w = 0 by omega]; omega) | (rw [show w = 1 by omega]; exact hi3) | (rw [show w = 2 by omega]; exact hi4)) | (rw [if_neg (by omega)]; omega)) dX11_count_134
          · refine lv_iload_n hx hb dX11_count_84 rfl (lv_at hl 2 rfl) ?_
            refine lv_goto (tgt := 134) hx hb dX11_count_85 (by decide) ?_
            rw [hQ]; exact jm_iret ho9 hx hb hr hlocks hS hP rfl (by (try dsimp only); unfold cntF; first | (rw [if_pos (by omega)]; first | (rw [show w = 0 by omega]; omega) | (rw [show w = 1 by omega]; exact hi3) | (rw [show w = 2 by omega]; exact hi4)) | (rw [if_neg (by omega)]; omega)) dX11_count_134
        · refine lv_aload_n hx hb dX11_count_69 rfl (lv_at hl 0 rfl) ?_
          refine j_rd (va_runV (As := []) (rest := []) ⟨hx, hb, hml, hown, hts⟩ (c_X11_startMany l D cI cZ z h0 h40 h41 h42 h43 h44 h45 h46 h47 h48 h49 h50 h51 h52 0 tra tn nx tk pl va fl tc km ta le rm9 rc9 fa tr ro lo td gd dr (by first | assumption | omega) (by first | assumption | omega) (by first | assumption | omega) H.size) (cwV 0 hts gX11_count_X11_startMany rfl rfl rfl hvX11_startMany ⟨Nat.le_of_ble_eq_true rfl, Nat.le_of_ble_eq_true rfl⟩) (j_preV hP hD hK hS hZ hA [0, 1, 2] rfl rfl 0 rfl rfl) rfl rfl hl.1 rfl (lv_room (Nat.le_of_ble_eq_true rfl)) dX11_count_70 ⟨Nat.zero_le _, Nat.zero_le _⟩) ?_
          refine lv_bipush (v := iI (8)) hx hb dX11_count_73 (by decide) ?_
          refine j_idiv hx hb (by omega) dX11_count_75 ?_
          refine lv_goto (tgt := 134) hx hb dX11_count_76 (by decide) ?_
          rw [hQ]; exact jm_iret ((8 * coN (td 0) (td 1) gd 0 (td 0 * td 1).toNat) / 8) hx hb hr hlocks hS hP rfl (by (try dsimp only); unfold cntF; first | (rw [if_pos (by omega)]; first | (rw [show w = 0 by omega]; omega) | (rw [show w = 1 by omega]; exact hi3) | (rw [show w = 2 by omega]; exact hi4)) | (rw [if_neg (by omega)]; omega)) dX11_count_134
      · refine lv_iload_n hx hb dX11_count_21 rfl (lv_at hl 2 rfl) ?_
        refine lv_aload_n hx hb dX11_count_22 rfl (lv_at hl 0 rfl) ?_
        refine va_get (D := D) (ci := 11) (v := .ref h42) (C := RX11) (T := TX11) (N := 32) hx hb hts UX11 hown hK hP 0 rfl rfl 10 (by decide) L16 (fun _ h9 => h9) rfl dX11_count_23 ?_
        have hgr := hg c9 (by omega) (by omega)
        refine lv_iload hx hb dX11_count_26 (lv_at hl 4 rfl) ?_
        refine j_iald hx hb hK hP 2 0 rfl rfl (by omega) dX11_count_28 ?_
        refine lv_iconst (v := iI (1)) hx hb dX11_count_29 rfl ?_
        obtain ⟨t_1, et_1⟩ : ∃ t : Int, t = if ¬ (gd c9) = 1 then 0 else 1 := ⟨_, rfl⟩
        have kt_1 : W p l e rmX11_count s m args below meth c H locs 0 0 Q (F0 m 38 ls [.int (iI (t_1)), .int (iI (ho9))]) := by
          refine j_iadd hx hb dX11_count_38 ?_
          refine lv_istore_n (lv' := [(2, .int (iI (ho9 + t_1))), (0, .ref h0), (1, .int (iI (w))), (3, .int (iI (bo9))), (4, .int (iI (c9)))]) hx hb dX11_count_39 rfl hl (by decide) rfl (fun ls hl => ?_)
          refine lv_iload_n hx hb dX11_count_40 rfl (lv_at hl 3 rfl) ?_
          refine lv_aload_n hx hb dX11_count_41 rfl (lv_at hl 1 rfl) ?_
          refine va_get (D := D) (ci := 11) (v := .ref h42) (C := RX11) (T := TX11) (N := 32) hx hb hts UX11 hown hK hP 0 rfl rfl 10 (by decide) L16 (fun _ h9 => h9) rfl dX11_count_42 ?_
          refine lv_iload hx hb dX11_count_45 (lv_at hl 4 rfl) ?_
          refine j_iald hx hb hK hP 2 0 rfl rfl (by omega) dX11_count_47 ?_
          refine lv_iconst (v := iI (2)) hx hb dX11_count_48 rfl ?_
          obtain ⟨t_2, et_2⟩ : ∃ t : Int, t = if ¬ (gd c9) = 2 then 0 else 1 := ⟨_, rfl⟩
          have kt_2 : W p l e rmX11_count s m args below meth c H locs 0 0 Q (F0 m 57 ls [.int (iI (t_2)), .int (iI (bo9))]) := by
            refine j_iadd hx hb dX11_count_57 ?_
            refine lv_istore_n (lv' := [(3, .int (iI (bo9 + t_2))), (2, .int (iI (ho9 + t_1))), (0, .ref h0), (1, .int (iI (w))), (4, .int (iI (c9)))]) hx hb dX11_count_58 rfl hl (by decide) rfl (fun ls hl => ?_)
            refine lv_iinc (v := iI (c9 + 1)) (lv' := [(4, .int (iI (c9 + 1))), (3, .int (iI (bo9 + t_2))), (2, .int (iI (ho9 + t_1))), (0, .ref h0), (1, .int (iI (w)))]) hx hb dX11_count_59 hl (k := 4) rfl (iI_add _ _) (by decide) rfl (fun ls hl => ?_)
            refine lv_goto (tgt := 12) hx hb dX11_count_62 (by decide) ?_
            exact ih_12 ((ho9 + t_1)) ((bo9 + t_2)) ((c9 + 1)) (n + 1) (by have hkd : kd (td 0) (td 1) gd (n : Int) = gd c9 := (by unfold kd; rw [if_pos (by omega), hi1]); exact ⟨by omega, by omega, by rw [coN, hkd]; omega, by rw [coN, hkd]; omega⟩) (by omega) H locs hP hD hS ls (lv_sub hl [3, 4, 2, 1, 0] rfl)
          refine j_icmp_ne (tgt := 56) hx hb (by omega) dX11_count_49 (by decide) (fun q_3 => ?_) (fun q_3 => ?_)
          · refine lv_iconst (v := iI (0)) hx hb dX11_count_56 rfl ?_
            (have q9 := kt_2; rw [et_2, if_pos q_3] at q9; exact q9)
          · refine lv_iconst (v := iI (1)) hx hb dX11_count_52 rfl ?_
            refine lv_goto (tgt := 57) hx hb dX11_count_53 (by decide) ?_
            (have q9 := kt_2; rw [et_2, if_neg (fun q => q q_3)] at q9; exact q9)
        refine j_icmp_ne (tgt := 37) hx hb (by omega) dX11_count_30 (by decide) (fun q_4 => ?_) (fun q_4 => ?_)
        · refine lv_iconst (v := iI (0)) hx hb dX11_count_37 rfl ?_
          (have q9 := kt_1; rw [et_1, if_pos q_4] at q9; exact q9)
        · refine lv_iconst (v := iI (1)) hx hb dX11_count_33 rfl ?_
          refine lv_goto (tgt := 38) hx hb dX11_count_34 (by decide) ?_
          (have q9 := kt_1; rw [et_1, if_neg (fun q => q q_4)] at q9; exact q9)
  exact loop_12 _ 0 0 0 0 (by exact ⟨rfl, by omega, rfl, rfl⟩) (Nat.lt_succ_self _) H locs hP hD hS ls (lv_sub hl [3, 4, 2, 1, 0] rfl)
