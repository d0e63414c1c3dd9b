abbrev rmX11_goesTrackA : Room := { frames := 5, cells := 0, slots := 0, locals := 111 }
set_option maxHeartbeats 4000000 in
set_option maxRecDepth 100000 in
theorem c_X11_goesTrackA (l : Launch) (D : va_G) (cI cZ : ClassId) (z : jZT) (h0 h40 h41 h42 h43 h44 h45 h46 h47 h48 h49 h50 h51 h52 : Nat) (d th tra tn nx tk pl va fl tc km ta le rm9 rc9 fa tr ro lo : Int) (td gd wk mt : Int → Int) (dr : Bool) (hW : 3 ≤ td 0 ∧ td 0 ≤ 16) (hH : 3 ≤ td 1 ∧ td 1 ≤ 16) (hg : ∀ j : Int, 0 ≤ j → j < 256 → 0 ≤ gd j ∧ gd j ≤ 2) (hno : 1 ≤ td 2 ∧ td 2 ≤ 3) (htu : 1 ≤ td 3 ∧ td 3 ≤ 7) (hbe : 0 ≤ td 4 ∧ td 4 ≤ 9) (hdr : dr = false) (hmt : ∀ j : Int, 0 ≤ j → j < tc → 0 ≤ mt j ∧ mt j < td 0 * td 1) (htc : 2 ≤ tc ∧ tc ≤ 16) (hd : 0 ≤ d ∧ d < 8) : jMu (S := (Int → Int)) l yX11_goesTrack wsX11_goesTrack rmX11_goesTrackA [.ref h0, .int (iI (d))] D cI cZ z [(h0, .inr (11, [.int (iI (th)), .long (lI (tra)), .ref h40, .int (iI (tn)), .int (iI (nx)), .int (iI (tk)), .int (iI (pl)), .int (iI (va)), .int (iI (fl)), .ref h41, .ref h42, .ref h43, .ref h44, .ref h45, .ref h46, .ref h47, .ref h48, .ref h49, .ref h50, .ref h51, .int (iI (tc)), .ref h52, .int (iI (km)), .int (iI (bI dr)), .int (iI (ta)), .int (iI (le)), .int (iI (rm9)), .int (iI (rc9)), .int (iI (fa)), .int (iI (tr)), .int (iI (ro)), .int (iI (lo))])), (h41, .inl (cI, 18, .inl (aI td))), (h42, .inl (cI, 512, .inl (aI gd))), (h46, .inl (cI, 4, .inl (aI wk))), (h51, .inl (cI, 16, .inl (aI mt)))] (fun u => some (.int (iI (bI (ftF (stF (td 0) (td 1) gd (td 2) (td 3) (td 4)) (td 0) (td 1) gd mt tc d))))) (fun u => True) (fun u => [(h0, .inr (11, [.int (iI (th)), .long (lI (tra)), .ref h40, .int (iI (tn)), .int (iI (nx)), .int (iI (tk)), .int (iI (pl)), .int (iI (va)), .int (iI (fl)), .ref h41, .ref h42, .ref h43, .ref h44, .ref h45, .ref h46, .ref h47, .ref h48, .ref h49, .ref h50, .ref h51, .int (iI (tc)), .ref h52, .int (iI (km)), .int (iI (bI dr)), .int (iI (ta)), .int (iI (le)), .int (iI (rm9)), .int (iI (rc9)), .int (iI (fa)), .int (iI (tr)), .int (iI (ro)), .int (iI (lo))])), (h41, .inl (cI, 18, .inl (aI td))), (h42, .inl (cI, 512, .inl (aI gd))), (h46, .inl (cI, 4, .inl (aI u))), (h51, .inl (cI, 16, .inl (aI mt)))]) := by
  refine jMu_of (cc := cX11_goesTrack) (n := 4) (ret := (some .boolean)) (by decide) rfl (Nat.le_of_ble_eq_true rfl) ?_
  intro p e s m below meth c A ls args Q hQ F hA hZ hP hK hD hS hl
  obtain ⟨hx, hb, hr, hml, hown, hts, hlocks⟩ := F
  have hown : s.vm.findClass RX11 = some m.cls := hown
  have hl : lv_has ls 4 [(0, .ref h0), (1, .int (iI (d)))] := hl
  have L29 := hts (.fieldLink RX11 29 "TinMouseModel" "walk" "[I") (by decide +kernel)
  have L44 := hts (.fieldLink RX11 44 "TinMouseModel" "track" "[I") (by decide +kernel)
  have L13 := hts (.fieldLink RX11 13 "TinMouseModel" "told" "[I") (by decide +kernel)
  have L125 := hts (.fieldLink RX11 125 "TinMouseModel" "tracks" "I") (by decide +kernel)
  have UX11 : ∀ w ∈ wsX110, w ∈ wsX11_goesTrack := fun w h => List.mem_cons_of_mem _ (List.mem_append_right _ h)
  have hwh := wh_rng hW hH
  have hm0 := hmt 0 (by omega) (by omega)
  have hcs := cell_split hW hm0
  refine lv_aload_n hx hb dX11_goesTrack_0 rfl (lv_at hl 0 rfl) ?_
  refine va_get (D := D) (ci := 11) (v := .ref h46) (C := RX11) (T := TX11) (N := 32) hx hb hts UX11 hown hK hP 0 rfl rfl 14 (by decide) L29 (fun _ h9 => h9) rfl dX11_goesTrack_1 ?_
  refine lv_iconst (v := iI (0)) hx hb dX11_goesTrack_4 rfl ?_
  refine lv_aload_n hx hb dX11_goesTrack_5 rfl (lv_at hl 0 rfl) ?_
  refine va_get (D := D) (ci := 11) (v := .ref h51) (C := RX11) (T := TX11) (N := 32) hx hb hts UX11 hown hK hP 0 rfl rfl 19 (by decide) L44 (fun _ h9 => h9) rfl dX11_goesTrack_6 ?_
  refine lv_iconst (v := iI (0)) hx hb dX11_goesTrack_9 rfl ?_
  refine j_iald hx hb hK hP 4 0 rfl rfl (by omega) dX11_goesTrack_10 ?_
  refine lv_aload_n hx hb dX11_goesTrack_11 rfl (lv_at hl 0 rfl) ?_
  refine va_get (D := D) (ci := 11) (v := .ref h41) (C := RX11) (T := TX11) (N := 32) hx hb hts UX11 hown hK hP 0 rfl rfl 9 (by decide) L13 (fun _ h9 => h9) rfl dX11_goesTrack_12 ?_
  refine lv_iconst (v := iI (0)) hx hb dX11_goesTrack_15 rfl ?_
  refine j_iald hx hb hK hP 1 0 rfl rfl (by omega) dX11_goesTrack_16 ?_
  refine j_irem hx hb (by omega) dX11_goesTrack_17 ?_
  refine j_iast hx hb hK hP hD hS 3 0 rfl rfl (by omega) dX11_goesTrack_18 (fun H locs hP hD hS => ?_)
  have hP : va_P D vwCl [(h0, .inr (11, [.int (iI (th)), .long (lI (tra)), .ref h40, .int (iI (tn)), .int (iI (nx)), .int (iI (tk)), .int (iI (pl)), .int (iI (va)), .int (iI (fl)), .ref h41, .ref h42, .ref h43, .ref h44, .ref h45, .ref h46, .ref h47, .ref h48, .ref h49, .ref h50, .ref h51, .int (iI (tc)), .ref h52, .int (iI (km)), .int (iI (bI dr)), .int (iI (ta)), .int (iI (le)), .int (iI (rm9)), .int (iI (rc9)), .int (iI (fa)), .int (iI (tr)), .int (iI (ro)), .int (iI (lo))])), (h41, .inl (cI, 18, .inl (aI td))), (h42, .inl (cI, 512, .inl (aI gd))), (h46, .inl (cI, 4, .inl (aI (upZ wk 0 ((mt 0) % (td 0)))))), (h51, .inl (cI, 16, .inl (aI mt)))] H := hP
  have hD : va_D A [(h0, .inr (11, [.int (iI (th)), .long (lI (tra)), .ref h40, .int (iI (tn)), .int (iI (nx)), .int (iI (tk)), .int (iI (pl)), .int (iI (va)), .int (iI (fl)), .ref h41, .ref h42, .ref h43, .ref h44, .ref h45, .ref h46, .ref h47, .ref h48, .ref h49, .ref h50, .ref h51, .int (iI (tc)), .ref h52, .int (iI (km)), .int (iI (bI dr)), .int (iI (ta)), .int (iI (le)), .int (iI (rm9)), .int (iI (rc9)), .int (iI (fa)), .int (iI (tr)), .int (iI (ro)), .int (iI (lo))])), (h41, .inl (cI, 18, .inl (aI td))), (h42, .inl (cI, 512, .inl (aI gd))), (h46, .inl (cI, 4, .inl (aI (upZ wk 0 ((mt 0) % (td 0)))))), (h51, .inl (cI, 16, .inl (aI mt)))] := hD
  refine lv_aload_n hx hb dX11_goesTrack_19 rfl (lv_at hl 0 rfl) ?_
  refine va_get (D := D) (ci := 11) (v := .ref h46) (C := RX11) (T := TX11) (N := 32) hx hb hts UX11 hown hK hP 0 rfl rfl 14 (by decide) L29 (fun _ h9 => h9) rfl dX11_goesTrack_20 ?_
  refine lv_iconst (v := iI (1)) hx hb dX11_goesTrack_23 rfl ?_
  refine lv_aload_n hx hb dX11_goesTrack_24 rfl (lv_at hl 0 rfl) ?_
  refine va_get (D := D) (ci := 11) (v := .ref h51) (C := RX11) (T := TX11) (N := 32) hx hb hts UX11 hown hK hP 0 rfl rfl 19 (by decide) L44 (fun _ h9 => h9) rfl dX11_goesTrack_25 ?_
  refine lv_iconst (v := iI (0)) hx hb dX11_goesTrack_28 rfl ?_
  refine j_iald hx hb hK hP 4 0 rfl rfl (by omega) dX11_goesTrack_29 ?_
  refine lv_aload_n hx hb dX11_goesTrack_30 rfl (lv_at hl 0 rfl) ?_
  refine va_get (D := D) (ci := 11) (v := .ref h41) (C := RX11) (T := TX11) (N := 32) hx hb hts UX11 hown hK hP 0 rfl rfl 9 (by decide) L13 (fun _ h9 => h9) rfl dX11_goesTrack_31 ?_
  refine lv_iconst (v := iI (0)) hx hb dX11_goesTrack_34 rfl ?_
  refine j_iald hx hb hK hP 1 0 rfl rfl (by omega) dX11_goesTrack_35 ?_
  refine j_idiv hx hb (by omega) dX11_goesTrack_36 ?_
  refine j_iast hx hb hK hP hD hS 3 0 rfl rfl (by omega) dX11_goesTrack_37 (fun H locs hP hD hS => ?_)
  have hP : va_P D vwCl [(h0, .inr (11, [.int (iI (th)), .long (lI (tra)), .ref h40, .int (iI (tn)), .int (iI (nx)), .int (iI (tk)), .int (iI (pl)), .int (iI (va)), .int (iI (fl)), .ref h41, .ref h42, .ref h43, .ref h44, .ref h45, .ref h46, .ref h47, .ref h48, .ref h49, .ref h50, .ref h51, .int (iI (tc)), .ref h52, .int (iI (km)), .int (iI (bI dr)), .int (iI (ta)), .int (iI (le)), .int (iI (rm9)), .int (iI (rc9)), .int (iI (fa)), .int (iI (tr)), .int (iI (ro)), .int (iI (lo))])), (h41, .inl (cI, 18, .inl (aI td))), (h42, .inl (cI, 512, .inl (aI gd))), (h46, .inl (cI, 4, .inl (aI (upZ (upZ wk 0 ((mt 0) % (td 0))) 1 ((mt 0) / (td 0)))))), (h51, .inl (cI, 16, .inl (aI mt)))] H := hP
  have hD : va_D A [(h0, .inr (11, [.int (iI (th)), .long (lI (tra)), .ref h40, .int (iI (tn)), .int (iI (nx)), .int (iI (tk)), .int (iI (pl)), .int (iI (va)), .int (iI (fl)), .ref h41, .ref h42, .ref h43, .ref h44, .ref h45, .ref h46, .ref h47, .ref h48, .ref h49, .ref h50, .ref h51, .int (iI (tc)), .ref h52, .int (iI (km)), .int (iI (bI dr)), .int (iI (ta)), .int (iI (le)), .int (iI (rm9)), .int (iI (rc9)), .int (iI (fa)), .int (iI (tr)), .int (iI (ro)), .int (iI (lo))])), (h41, .inl (cI, 18, .inl (aI td))), (h42, .inl (cI, 512, .inl (aI gd))), (h46, .inl (cI, 4, .inl (aI (upZ (upZ wk 0 ((mt 0) % (td 0))) 1 ((mt 0) / (td 0)))))), (h51, .inl (cI, 16, .inl (aI mt)))] := hD
  refine lv_aload_n hx hb dX11_goesTrack_38 rfl (lv_at hl 0 rfl) ?_
  refine va_get (D := D) (ci := 11) (v := .ref h46) (C := RX11) (T := TX11) (N := 32) hx hb hts UX11 hown hK hP 0 rfl rfl 14 (by decide) L29 (fun _ h9 => h9) rfl dX11_goesTrack_39 ?_
  refine lv_iconst (v := iI (2)) hx hb dX11_goesTrack_42 rfl ?_
  refine lv_iload_n hx hb dX11_goesTrack_43 rfl (lv_at hl 1 rfl) ?_
  refine j_iast hx hb hK hP hD hS 3 0 rfl rfl (by omega) dX11_goesTrack_44 (fun H locs hP hD hS => ?_)
  have hP : va_P D vwCl [(h0, .inr (11, [.int (iI (th)), .long (lI (tra)), .ref h40, .int (iI (tn)), .int (iI (nx)), .int (iI (tk)), .int (iI (pl)), .int (iI (va)), .int (iI (fl)), .ref h41, .ref h42, .ref h43, .ref h44, .ref h45, .ref h46, .ref h47, .ref h48, .ref h49, .ref h50, .ref h51, .int (iI (tc)), .ref h52, .int (iI (km)), .int (iI (bI dr)), .int (iI (ta)), .int (iI (le)), .int (iI (rm9)), .int (iI (rc9)), .int (iI (fa)), .int (iI (tr)), .int (iI (ro)), .int (iI (lo))])), (h41, .inl (cI, 18, .inl (aI td))), (h42, .inl (cI, 512, .inl (aI gd))), (h46, .inl (cI, 4, .inl (aI (upZ (upZ (upZ wk 0 ((mt 0) % (td 0))) 1 ((mt 0) / (td 0))) 2 d)))), (h51, .inl (cI, 16, .inl (aI mt)))] H := hP
  have hD : va_D A [(h0, .inr (11, [.int (iI (th)), .long (lI (tra)), .ref h40, .int (iI (tn)), .int (iI (nx)), .int (iI (tk)), .int (iI (pl)), .int (iI (va)), .int (iI (fl)), .ref h41, .ref h42, .ref h43, .ref h44, .ref h45, .ref h46, .ref h47, .ref h48, .ref h49, .ref h50, .ref h51, .int (iI (tc)), .ref h52, .int (iI (km)), .int (iI (bI dr)), .int (iI (ta)), .int (iI (le)), .int (iI (rm9)), .int (iI (rc9)), .int (iI (fa)), .int (iI (tr)), .int (iI (ro)), .int (iI (lo))])), (h41, .inl (cI, 18, .inl (aI td))), (h42, .inl (cI, 512, .inl (aI gd))), (h46, .inl (cI, 4, .inl (aI (upZ (upZ (upZ wk 0 ((mt 0) % (td 0))) 1 ((mt 0) / (td 0))) 2 d)))), (h51, .inl (cI, 16, .inl (aI mt)))] := hD
  refine lv_aload_n hx hb dX11_goesTrack_45 rfl (lv_at hl 0 rfl) ?_
  refine va_get (D := D) (ci := 11) (v := .ref h46) (C := RX11) (T := TX11) (N := 32) hx hb hts UX11 hown hK hP 0 rfl rfl 14 (by decide) L29 (fun _ h9 => h9) rfl dX11_goesTrack_46 ?_
  refine lv_iconst (v := iI (3)) hx hb dX11_goesTrack_49 rfl ?_
  refine lv_iconst (v := iI (0)) hx hb dX11_goesTrack_50 rfl ?_
  refine j_iast hx hb hK hP hD hS 3 0 rfl rfl (by omega) dX11_goesTrack_51 (fun H locs hP hD hS => ?_)
  have hP : va_P D vwCl [(h0, .inr (11, [.int (iI (th)), .long (lI (tra)), .ref h40, .int (iI (tn)), .int (iI (nx)), .int (iI (tk)), .int (iI (pl)), .int (iI (va)), .int (iI (fl)), .ref h41, .ref h42, .ref h43, .ref h44, .ref h45, .ref h46, .ref h47, .ref h48, .ref h49, .ref h50, .ref h51, .int (iI (tc)), .ref h52, .int (iI (km)), .int (iI (bI dr)), .int (iI (ta)), .int (iI (le)), .int (iI (rm9)), .int (iI (rc9)), .int (iI (fa)), .int (iI (tr)), .int (iI (ro)), .int (iI (lo))])), (h41, .inl (cI, 18, .inl (aI td))), (h42, .inl (cI, 512, .inl (aI gd))), (h46, .inl (cI, 4, .inl (aI (upZ (upZ (upZ (upZ wk 0 ((mt 0) % (td 0))) 1 ((mt 0) / (td 0))) 2 d) 3 0)))), (h51, .inl (cI, 16, .inl (aI mt)))] H := hP
  have hD : va_D A [(h0, .inr (11, [.int (iI (th)), .long (lI (tra)), .ref h40, .int (iI (tn)), .int (iI (nx)), .int (iI (tk)), .int (iI (pl)), .int (iI (va)), .int (iI (fl)), .ref h41, .ref h42, .ref h43, .ref h44, .ref h45, .ref h46, .ref h47, .ref h48, .ref h49, .ref h50, .ref h51, .int (iI (tc)), .ref h52, .int (iI (km)), .int (iI (bI dr)), .int (iI (ta)), .int (iI (le)), .int (iI (rm9)), .int (iI (rc9)), .int (iI (fa)), .int (iI (tr)), .int (iI (ro)), .int (iI (lo))])), (h41, .inl (cI, 18, .inl (aI td))), (h42, .inl (cI, 512, .inl (aI gd))), (h46, .inl (cI, 4, .inl (aI (upZ (upZ (upZ (upZ wk 0 ((mt 0) % (td 0))) 1 ((mt 0) / (td 0))) 2 d) 3 0)))), (h51, .inl (cI, 16, .inl (aI mt)))] := hD
  refine lv_aload_n hx hb dX11_goesTrack_52 rfl (lv_at hl 0 rfl) ?_
  refine lv_aload_n hx hb dX11_goesTrack_53 rfl (lv_at hl 0 rfl) ?_
  refine va_get (D := D) (ci := 11) (v := .ref h46) (C := RX11) (T := TX11) (N := 32) hx hb hts UX11 hown hK hP 0 rfl rfl 14 (by decide) L29 (fun _ h9 => h9) rfl dX11_goesTrack_54 ?_
  refine lv_iconst (v := iI (0)) hx hb dX11_goesTrack_57 rfl ?_
  refine j_iald hx hb hK hP 3 0 rfl rfl (by omega) dX11_goesTrack_58 ?_
  refine j_top (fun x0 ex0 => ?_)
  rw [upZ_n (by decide), upZ_n (by decide), upZ_n (by decide), upZ_s] at ex0
  refine lv_aload_n hx hb dX11_goesTrack_59 rfl (lv_at hl 0 rfl) ?_
  refine va_get (D := D) (ci := 11) (v := .ref h46) (C := RX11) (T := TX11) (N := 32) hx hb hts UX11 hown hK hP 0 rfl rfl 14 (by decide) L29 (fun _ h9 => h9) rfl dX11_goesTrack_60 ?_
  refine lv_iconst (v := iI (1)) hx hb dX11_goesTrack_63 rfl ?_
  refine j_iald hx hb hK hP 3 0 rfl rfl (by omega) dX11_goesTrack_64 ?_
  refine j_top (fun y0 ey0 => ?_)
  rw [upZ_n (by decide), upZ_n (by decide), upZ_s] at ey0
  refine j_rd (va_runV (As := [.int (iI (x0)), .int (iI (y0))]) (rest := []) ⟨hx, hb, hml, hown, hts⟩ (c_X11_isWood l D cI cZ z h0 h40 h41 h42 h43 h44 h45 h46 h47 h48 h49 h50 h51 h52 x0 y0 th tra tn nx tk pl va fl tc km ta le rm9 rc9 fa tr ro lo td gd dr (by first | assumption | omega) (by first | assumption | omega) (by first | assumption | omega) (by rw [ex0]; omega) (by rw [ey0]; omega) H.size) (cwV 2 hts gX11_goesTrack_X11_isWood rfl rfl rfl hvX11_isWood ⟨Nat.le_of_ble_eq_true rfl, Nat.le_of_ble_eq_true rfl⟩) (j_preV hP hD hK hS hZ hA [0, 1, 2] rfl rfl 0 rfl rfl) rfl rfl hl.1 rfl (lv_room (Nat.le_of_ble_eq_true rfl)) dX11_goesTrack_65 ⟨Nat.zero_le _, Nat.zero_le _⟩) ?_
  refine lv_istore_n (lv' := [(2, .int (iI (bI (mW (td 0) (td 1) gd x0 y0)))), (0, .ref h0), (1, .int (iI (d)))]) hx hb dX11_goesTrack_68 rfl hl (by decide) rfl (fun ls hl => ?_)
  have hw0 : mW (td 0) (td 1) gd x0 y0 = isWd (td 0) (td 1) gd (mt 0) := (by rw [wd_of hW hH hm0, ex0, ey0])
  refine lv_iconst (v := iI (1)) hx hb dX11_goesTrack_69 rfl ?_
  refine lv_istore_n (lv' := [(3, .int (iI (1))), (2, .int (iI (bI (mW (td 0) (td 1) gd x0 y0)))), (0, .ref h0), (1, .int (iI (d)))]) hx hb dX11_goesTrack_70 rfl hl (by decide) rfl (fun ls hl => ?_)
  have loop_71 : ∀ (fuel_71 : Nat) (is9 : Int) (i : Int) (wk9 : Int → Int) (k : Nat), ((i = (k : Int) + 1 ∧ i ≤ tc) ∧ is9 = bI (isWd (td 0) (td 1) gd (mt 0) && ftN (stF (td 0) (td 1) gd (td 2) (td 3) (td 4)) mt ((mt 0 * 8 + d) * 9 + 0) (k + 1)) ∧ (¬ is9 = 0 → RepI (td 0) (td 1) wk9 (itn (stF (td 0) (td 1) gd (td 2) (td 3) (td 4)) ((mt 0 * 8 + d) * 9 + 0) k))) → (tc - i).toNat < fuel_71 → ∀ (H : Heap) (locs : List Loc), va_P D vwCl [(h0, .inr (11, [.int (iI (th)), .long (lI (tra)), .ref h40, .int (iI (tn)), .int (iI (nx)), .int (iI (tk)), .int (iI (pl)), .int (iI (va)), .int (iI (fl)), .ref h41, .ref h42, .ref h43, .ref h44, .ref h45, .ref h46, .ref h47, .ref h48, .ref h49, .ref h50, .ref h51, .int (iI (tc)), .ref h52, .int (iI (km)), .int (iI (bI dr)), .int (iI (ta)), .int (iI (le)), .int (iI (rm9)), .int (iI (rc9)), .int (iI (fa)), .int (iI (tr)), .int (iI (ro)), .int (iI (lo))])), (h41, .inl (cI, 18, .inl (aI td))), (h42, .inl (cI, 512, .inl (aI gd))), (h46, .inl (cI, 4, .inl (aI wk9))), (h51, .inl (cI, 16, .inl (aI mt)))] H → va_D A [(h0, .inr (11, [.int (iI (th)), .long (lI (tra)), .ref h40, .int (iI (tn)), .int (iI (nx)), .int (iI (tk)), .int (iI (pl)), .int (iI (va)), .int (iI (fl)), .ref h41, .ref h42, .ref h43, .ref h44, .ref h45, .ref h46, .ref h47, .ref h48, .ref h49, .ref h50, .ref h51, .int (iI (tc)), .ref h52, .int (iI (km)), .int (iI (bI dr)), .int (iI (ta)), .int (iI (le)), .int (iI (rm9)), .int (iI (rc9)), .int (iI (fa)), .int (iI (tr)), .int (iI (ro)), .int (iI (lo))])), (h41, .inl (cI, 18, .inl (aI td))), (h42, .inl (cI, 512, .inl (aI gd))), (h46, .inl (cI, 4, .inl (aI wk9))), (h51, .inl (cI, 16, .inl (aI mt)))] → va_S A s.heap H locs → ∀ ls : Array Slot, lv_has ls 4 [(0, .ref h0), (2, .int (iI (is9))), (3, .int (iI (i)))] → W p l e rmX11_goesTrackA s m args below meth c H locs 0 0 Q (F0 m 71 ls []) := by
    intro fuel_71
    induction fuel_71 with
    | zero => intro is9 i wk9 k hI9 hm9; exact absurd hm9 (Nat.not_lt_zero _)
    | succ fuel_71 ih_71 =>
      intro is9 i wk9 k hI_71 hm_71 H locs hP hD hS ls hl
      obtain ⟨hi1, hi2, hi4⟩ := hI_71
      have hbr := bI_01 (isWd (td 0) (td 1) gd (mt 0) && ftN (stF (td 0) (td 1) gd (td 2) (td 3) (td 4)) mt ((mt 0 * 8 + d) * 9 + 0) (k + 1))
      refine lv_iload_n hx hb dX11_goesTrack_71 rfl (lv_at hl 2 rfl) ?_
      refine lv_aload_n hx hb dX11_goesTrack_72 rfl (lv_at hl 0 rfl) ?_
      refine va_get (D := D) (ci := 11) (v := .int (iI (tc))) (C := RX11) (T := TX11) (N := 32) hx hb hts UX11 hown hK hP 0 rfl rfl 20 (by decide) L125 (fun _ h9 => h9) rfl dX11_goesTrack_73 ?_
      refine j_icmp_ge (tgt := 124) hx hb (by omega) dX11_goesTrack_76 (by decide) (fun c_76 => ?_) (fun c_76 => ?_)
      · refine lv_iload_n hx hb dX11_goesTrack_124 rfl (lv_at hl 1 rfl) ?_
        rw [show is9 = bI (ftF (stF (td 0) (td 1) gd (td 2) (td 3) (td 4)) (td 0) (td 1) gd mt tc d) from (by unfold ftF; rw [if_neg (by omega)]; exact ft_end hi2 (by omega))]
        rw [hQ]; exact jm_zret wk9 hx hb hr hlocks (jn_b _) hS hP rfl trivial dX11_goesTrack_125
      · refine lv_iload_n hx hb dX11_goesTrack_79 rfl (lv_at hl 1 rfl) ?_
        refine j_if_eq (tgt := 124) hx hb (by omega) dX11_goesTrack_80 (by decide) (fun c_80 => ?_) (fun c_80 => ?_)
        · refine lv_iload_n hx hb dX11_goesTrack_124 rfl (lv_at hl 1 rfl) ?_
          rw [show is9 = bI (ftF (stF (td 0) (td 1) gd (td 2) (td 3) (td 4)) (td 0) (td 1) gd mt tc d) from (by unfold ftF; rw [if_neg (by omega)]; exact ft_end hi2 (by omega))]
          rw [hQ]; exact jm_zret wk9 hx hb hr hlocks (jn_b _) hS hP rfl trivial dX11_goesTrack_125
        · have hrp := hi4 c_80
          have hrc := rep_cell hW hH hrp
          refine lv_aload_n hx hb dX11_goesTrack_83 rfl (lv_at hl 0 rfl) ?_
          refine lv_aload_n hx hb dX11_goesTrack_84 rfl (lv_at hl 0 rfl) ?_
          refine va_get (D := D) (ci := 11) (v := .ref h46) (C := RX11) (T := TX11) (N := 32) hx hb hts UX11 hown hK hP 0 rfl rfl 14 (by decide) L29 (fun _ h9 => h9) rfl dX11_goesTrack_85 ?_
          refine j_mui (va_runV (As := [.ref h46]) (rest := []) ⟨hx, hb, hml, hown, hts⟩ (c_X11_stepsA l D cI cZ z h0 h46 h40 h41 h42 h43 h44 h45 h46 h47 h48 h49 h50 h51 h52 th tra tn nx tk pl va fl tc km ta le rm9 rc9 fa tr ro lo td gd wk9 dr (by first | assumption | omega) (by first | assumption | omega) (by first | assumption | omega) (by first | assumption | omega) (by first | assumption | omega) (by first | assumption | omega) (by exact hrp.2) (by exact hdr) H.size) (cwV 1 hts gX11_goesTrack_X11_steps rfl rfl rfl hvX11_steps ⟨Nat.le_of_ble_eq_true rfl, Nat.le_of_ble_eq_true rfl⟩) (j_preV hP hD hK hS hZ hA [0, 1, 2, 3] rfl rfl 0 rfl rfl) rfl rfl hl.1 rfl (lv_room (Nat.le_of_ble_eq_true rfl)) dX11_goesTrack_88 ⟨Nat.zero_le _, Nat.zero_le _⟩) hP hD hS hA [0, 1, 2, 3] rfl (fun _ => rfl) (fun u_9 H locs hw_88 hP hD hS => ?_)
          obtain ⟨wk3, rr⟩ := u_9
          dsimp only at hw_88
          have hP : va_P D vwCl [(h0, .inr (11, [.int (iI (th)), .long (lI (tra)), .ref h40, .int (iI (tn)), .int (iI (nx)), .int (iI (tk)), .int (iI (pl)), .int (iI (va)), .int (iI (fl)), .ref h41, .ref h42, .ref h43, .ref h44, .ref h45, .ref h46, .ref h47, .ref h48, .ref h49, .ref h50, .ref h51, .int (iI (tc)), .ref h52, .int (iI (km)), .int (iI (bI dr)), .int (iI (ta)), .int (iI (le)), .int (iI (rm9)), .int (iI (rc9)), .int (iI (fa)), .int (iI (tr)), .int (iI (ro)), .int (iI (lo))])), (h41, .inl (cI, 18, .inl (aI td))), (h42, .inl (cI, 512, .inl (aI gd))), (h46, .inl (cI, 4, .inl (aI wk3))), (h51, .inl (cI, 16, .inl (aI mt)))] H := hP
          have hD : va_D A [(h0, .inr (11, [.int (iI (th)), .long (lI (tra)), .ref h40, .int (iI (tn)), .int (iI (nx)), .int (iI (tk)), .int (iI (pl)), .int (iI (va)), .int (iI (fl)), .ref h41, .ref h42, .ref h43, .ref h44, .ref h45, .ref h46, .ref h47, .ref h48, .ref h49, .ref h50, .ref h51, .int (iI (tc)), .ref h52, .int (iI (km)), .int (iI (bI dr)), .int (iI (ta)), .int (iI (le)), .int (iI (rm9)), .int (iI (rc9)), .int (iI (fa)), .int (iI (tr)), .int (iI (ro)), .int (iI (lo))])), (h41, .inl (cI, 18, .inl (aI td))), (h42, .inl (cI, 512, .inl (aI gd))), (h46, .inl (cI, 4, .inl (aI wk3))), (h51, .inl (cI, 16, .inl (aI mt)))] := hD
          refine j_top (fun rv erv => ?_)
          dsimp only at erv
          have hms := rep_step hW hH htu hbe hrp hw_88
          have hnx : itn (stF (td 0) (td 1) gd (td 2) (td 3) (td 4)) ((mt 0 * 8 + d) * 9 + 0) (k + 1) = (stF (td 0) (td 1) gd (td 2) (td 3) (td 4)) (itn (stF (td 0) (td 1) gd (td 2) (td 3) (td 4)) ((mt 0 * 8 + d) * 9 + 0) k) := rfl
          refine lv_iconst (v := iI (-1)) hx hb dX11_goesTrack_91 rfl ?_
          refine j_icmp_eq (tgt := 116) hx hb (by omega) dX11_goesTrack_92 (by decide) (fun c_92 => ?_) (fun c_92 => ?_)
          · refine lv_iconst (v := iI (0)) hx hb dX11_goesTrack_116 rfl ?_
            refine lv_istore_n (lv' := [(2, .int (iI (0))), (0, .ref h0), (3, .int (iI (i)))]) hx hb dX11_goesTrack_117 rfl hl (by decide) rfl (fun ls hl => ?_)
            refine lv_iinc (v := iI (i + 1)) (lv' := [(3, .int (iI (i + 1))), (2, .int (iI (0))), (0, .ref h0)]) hx hb dX11_goesTrack_118 hl (k := 2) rfl (iI_add _ _) (by decide) rfl (fun ls hl => ?_)
            refine lv_goto (tgt := 71) hx hb dX11_goesTrack_121 (by decide) ?_
            exact ih_71 0 ((i + 1)) wk3 (k + 1) (by refine ⟨by omega, ft_s (bO_t (fun w => by omega)) hi1.1 (by omega), fun w => ?_⟩; exact (hms.resolve_left (fun w => by omega)).2.1) (by omega) H locs hP hD hS ls (lv_sub hl [2, 1, 0] rfl)
          · have hrc2 := rep_cell hW hH (hms.resolve_left (fun w => by omega)).2.1
            rw [← hnx] at hrc2
            refine lv_aload_n hx hb dX11_goesTrack_95 rfl (lv_at hl 0 rfl) ?_
            refine lv_aload_n hx hb dX11_goesTrack_96 rfl (lv_at hl 0 rfl) ?_
            refine va_get (D := D) (ci := 11) (v := .ref h46) (C := RX11) (T := TX11) (N := 32) hx hb hts UX11 hown hK hP 0 rfl rfl 14 (by decide) L29 (fun _ h9 => h9) rfl dX11_goesTrack_97 ?_
            refine j_rd (va_runV (As := [.ref h46]) (rest := []) ⟨hx, hb, hml, hown, hts⟩ (c_X11_cellOf l D cI cZ z h0 h46 h40 h41 h42 h43 h44 h45 h46 h47 h48 h49 h50 h51 h52 th tra tn nx tk pl va fl tc km ta le rm9 rc9 fa tr ro lo td wk3 dr  H.size) (cwV 1 hts gX11_goesTrack_X11_cellOf rfl rfl rfl hvX11_cellOf ⟨Nat.le_of_ble_eq_true rfl, Nat.le_of_ble_eq_true rfl⟩) (j_preV hP hD hK hS hZ hA [0, 1, 3] rfl rfl 0 rfl rfl) rfl rfl hl.1 rfl (lv_room (Nat.le_of_ble_eq_true rfl)) dX11_goesTrack_100 ⟨Nat.zero_le _, Nat.zero_le _⟩) ?_
            have hmi := hmt i (by omega) (by omega)
            refine lv_aload_n hx hb dX11_goesTrack_103 rfl (lv_at hl 0 rfl) ?_
            refine va_get (D := D) (ci := 11) (v := .ref h51) (C := RX11) (T := TX11) (N := 32) hx hb hts UX11 hown hK hP 0 rfl rfl 19 (by decide) L44 (fun _ h9 => h9) rfl dX11_goesTrack_104 ?_
            refine lv_iload_n hx hb dX11_goesTrack_107 rfl (lv_at hl 2 rfl) ?_
            refine j_iald hx hb hK hP 4 0 rfl rfl (by omega) dX11_goesTrack_108 ?_
            obtain ⟨t_1, et_1⟩ : ∃ t : Int, t = if ¬ (td 0 * wk3 1 + wk3 0) = (mt i) then 0 else 1 := ⟨_, rfl⟩
            have kt_1 : W p l e rmX11_goesTrackA s m args below meth c H locs 0 0 Q (F0 m 117 ls [.int (iI (t_1))]) := by
              refine lv_istore_n (lv' := [(2, .int (iI (t_1))), (0, .ref h0), (3, .int (iI (i)))]) hx hb dX11_goesTrack_117 rfl hl (by decide) rfl (fun ls hl => ?_)
              refine lv_iinc (v := iI (i + 1)) (lv' := [(3, .int (iI (i + 1))), (2, .int (iI (t_1))), (0, .ref h0)]) hx hb dX11_goesTrack_118 hl (k := 2) rfl (iI_add _ _) (by decide) rfl (fun ls hl => ?_)
              refine lv_goto (tgt := 71) hx hb dX11_goesTrack_121 (by decide) ?_
              exact ih_71 t_1 ((i + 1)) wk3 (k + 1) (by refine ⟨by omega, ft_s (bO_t (fun w => by omega)) hi1.1 (by omega), fun w => ?_⟩; exact (hms.resolve_left (fun w => by omega)).2.1) (by omega) H locs hP hD hS ls (lv_sub hl [2, 1, 0] rfl)
            refine j_icmp_ne (tgt := 116) hx hb (by omega) dX11_goesTrack_109 (by decide) (fun q_2 => ?_) (fun q_2 => ?_)
            · refine lv_iconst (v := iI (0)) hx hb dX11_goesTrack_116 rfl ?_
              (have q9 := kt_1; rw [et_1, if_pos q_2] at q9; exact q9)
            · refine lv_iconst (v := iI (1)) hx hb dX11_goesTrack_112 rfl ?_
              refine lv_goto (tgt := 117) hx hb dX11_goesTrack_113 (by decide) ?_
              (have q9 := kt_1; rw [et_1, if_neg (fun q => q q_2)] at q9; exact q9)
  exact loop_71 _ (bI (mW (td 0) (td 1) gd x0 y0)) 1 (upZ (upZ (upZ (upZ wk 0 ((mt 0) % (td 0))) 1 ((mt 0) / (td 0))) 2 d) 3 0) 0 (by have hf1 : ftN (stF (td 0) (td 1) gd (td 2) (td 3) (td 4)) mt ((mt 0 * 8 + d) * 9 + 0) (0 + 1) = true := ftN_1 (by omega); have h1 : stdX (td 0) (mt 0 % td 0) (mt 0 / td 0) d 0 = ((mt 0 * 8 + d) * 9 + 0) := (by unfold stdX; rw [hcs.2.2.2.2]); refine ⟨by omega, (by rw [hf1, Bool.and_true, hw0]), fun _ => ⟨?_, ?_⟩⟩; (rw [itn, ← h1]; simp [upZ]); (simp [upZ]; omega)) (Nat.lt_succ_self _) H locs hP hD hS ls (lv_sub hl [2, 1, 0] rfl)
