abbrev rmX11_isStartOf : Room := { frames := 2, cells := 0, slots := 0, locals := 44 }
set_option maxHeartbeats 4000000 in
set_option maxRecDepth 100000 in
theorem c_X11_isStartOf (l : Launch) (D : va_G) (cI cZ : ClassId) (z : jZT) (h0 h40 h41 h42 h43 h44 h45 h46 h47 h48 h49 h50 h51 h52 : Nat) (k9 th tra tn nx tk pl va fl tc km ta le rm9 rc9 fa tr ro lo : Int) (td gd wk : Int → Int) (dr : Bool) (hW : 3 ≤ td 0 ∧ td 0 ≤ 16) (hH : 3 ≤ td 1 ∧ td 1 ≤ 16) (hg : ∀ j : Int, 0 ≤ j → j < 256 → 0 ≤ gd j ∧ gd j ≤ 2) (hk9 : 0 ≤ k9 ∧ k9 < 2048) : jMu (S := (Int → Int)) l yX11_isStartOf wsX11_isStartOf rmX11_isStartOf [.ref h0, .int (iI (k9))] D cI cZ z [(h0, .inr (11, [.int (iI (th)), .long (lI (tra)), .ref h40, .int (iI (tn)), .int (iI (nx)), .int (iI (tk)), .int (iI (pl)), .int (iI (va)), .int (iI (fl)), .ref h41, .ref h42, .ref h43, .ref h44, .ref h45, .ref h46, .ref h47, .ref h48, .ref h49, .ref h50, .ref h51, .int (iI (tc)), .ref h52, .int (iI (km)), .int (iI (bI dr)), .int (iI (ta)), .int (iI (le)), .int (iI (rm9)), .int (iI (rc9)), .int (iI (fa)), .int (iI (tr)), .int (iI (ro)), .int (iI (lo))])), (h41, .inl (cI, 18, .inl (aI td))), (h42, .inl (cI, 512, .inl (aI gd))), (h46, .inl (cI, 4, .inl (aI wk)))] (fun u => some (.int (iI (bI (decide (mA (td 0) (td 1) gd (k9 / 8 % td 0) (k9 / 8 / td 0) = 0)))))) (fun u => u 0 = k9 / 8 % td 0 ∧ u 1 = k9 / 8 / td 0 ∧ u 2 = k9 % 8 ∧ u 3 = 0) (fun u => [(h0, .inr (11, [.int (iI (th)), .long (lI (tra)), .ref h40, .int (iI (tn)), .int (iI (nx)), .int (iI (tk)), .int (iI (pl)), .int (iI (va)), .int (iI (fl)), .ref h41, .ref h42, .ref h43, .ref h44, .ref h45, .ref h46, .ref h47, .ref h48, .ref h49, .ref h50, .ref h51, .int (iI (tc)), .ref h52, .int (iI (km)), .int (iI (bI dr)), .int (iI (ta)), .int (iI (le)), .int (iI (rm9)), .int (iI (rc9)), .int (iI (fa)), .int (iI (tr)), .int (iI (ro)), .int (iI (lo))])), (h41, .inl (cI, 18, .inl (aI td))), (h42, .inl (cI, 512, .inl (aI gd))), (h46, .inl (cI, 4, .inl (aI u)))]) := by
  refine jMu_of (cc := cX11_isStartOf) (n := 2) (ret := (some .boolean)) (by decide) rfl (Nat.le_of_ble_eq_true rfl) ?_
  intro p e s m below meth c A ls args Q hQ F hA hZ hP hK hD hS hl
  obtain ⟨hx, hb, hr, hml, hown, hts, hlocks⟩ := F
  have hown : s.vm.findClass RX11 = some m.cls := hown
  have hl : lv_has ls 2 [(0, .ref h0), (1, .int (iI (k9)))] := hl
  have L29 := hts (.fieldLink RX11 29 "TinMouseModel" "walk" "[I") (by decide +kernel)
  have L13 := hts (.fieldLink RX11 13 "TinMouseModel" "told" "[I") (by decide +kernel)
  have UX11 : ∀ w ∈ wsX110, w ∈ wsX11_isStartOf := fun w h => List.mem_cons_of_mem _ (List.mem_append_right _ h)
  have hq1 := Int.emod_nonneg (k9 / 8) (show td 0 ≠ 0 by omega)
  have hq2 := Int.emod_lt_of_pos (k9 / 8) (show 0 < td 0 by omega)
  have hq3 := Int.ediv_nonneg (a := k9 / 8) (b := td 0) (by omega) (by omega)
  have hq4 : k9 / 8 / td 0 < 1000 := Int.ediv_lt_of_lt_mul (by omega) (by omega)
  have har := mA_rng hW hH hg (k9 / 8 % td 0) (k9 / 8 / td 0)
  refine lv_aload_n hx hb dX11_isStartOf_0 rfl (lv_at hl 0 rfl) ?_
  refine va_get (D := D) (ci := 11) (v := .ref h46) (C := RX11) (T := TX11) (N := 32) hx hb hts UX11 hown hK hP 0 rfl rfl 14 (by decide) L29 (fun _ h9 => h9) rfl dX11_isStartOf_1 ?_
  refine lv_iconst (v := iI (0)) hx hb dX11_isStartOf_4 rfl ?_
  refine lv_iload_n hx hb dX11_isStartOf_5 rfl (lv_at hl 1 rfl) ?_
  refine lv_bipush (v := iI (8)) hx hb dX11_isStartOf_6 (by decide) ?_
  refine j_idiv hx hb (by omega) dX11_isStartOf_8 ?_
  refine lv_aload_n hx hb dX11_isStartOf_9 rfl (lv_at hl 0 rfl) ?_
  refine va_get (D := D) (ci := 11) (v := .ref h41) (C := RX11) (T := TX11) (N := 32) hx hb hts UX11 hown hK hP 0 rfl rfl 9 (by decide) L13 (fun _ h9 => h9) rfl dX11_isStartOf_10 ?_
  refine lv_iconst (v := iI (0)) hx hb dX11_isStartOf_13 rfl ?_
  refine j_iald hx hb hK hP 1 0 rfl rfl (by omega) dX11_isStartOf_14 ?_
  refine j_irem hx hb (by omega) dX11_isStartOf_15 ?_
  refine j_iast hx hb hK hP hD hS 3 0 rfl rfl (by omega) dX11_isStartOf_16 (fun H locs hP hD hS => ?_)
  have hP : va_P D vwCl [(h0, .inr (11, [.int (iI (th)), .long (lI (tra)), .ref h40, .int (iI (tn)), .int (iI (nx)), .int (iI (tk)), .int (iI (pl)), .int (iI (va)), .int (iI (fl)), .ref h41, .ref h42, .ref h43, .ref h44, .ref h45, .ref h46, .ref h47, .ref h48, .ref h49, .ref h50, .ref h51, .int (iI (tc)), .ref h52, .int (iI (km)), .int (iI (bI dr)), .int (iI (ta)), .int (iI (le)), .int (iI (rm9)), .int (iI (rc9)), .int (iI (fa)), .int (iI (tr)), .int (iI (ro)), .int (iI (lo))])), (h41, .inl (cI, 18, .inl (aI td))), (h42, .inl (cI, 512, .inl (aI gd))), (h46, .inl (cI, 4, .inl (aI (upZ wk 0 ((k9 / 8) % (td 0))))))] H := hP
  have hD : va_D A [(h0, .inr (11, [.int (iI (th)), .long (lI (tra)), .ref h40, .int (iI (tn)), .int (iI (nx)), .int (iI (tk)), .int (iI (pl)), .int (iI (va)), .int (iI (fl)), .ref h41, .ref h42, .ref h43, .ref h44, .ref h45, .ref h46, .ref h47, .ref h48, .ref h49, .ref h50, .ref h51, .int (iI (tc)), .ref h52, .int (iI (km)), .int (iI (bI dr)), .int (iI (ta)), .int (iI (le)), .int (iI (rm9)), .int (iI (rc9)), .int (iI (fa)), .int (iI (tr)), .int (iI (ro)), .int (iI (lo))])), (h41, .inl (cI, 18, .inl (aI td))), (h42, .inl (cI, 512, .inl (aI gd))), (h46, .inl (cI, 4, .inl (aI (upZ wk 0 ((k9 / 8) % (td 0))))))] := hD
  refine lv_aload_n hx hb dX11_isStartOf_17 rfl (lv_at hl 0 rfl) ?_
  refine va_get (D := D) (ci := 11) (v := .ref h46) (C := RX11) (T := TX11) (N := 32) hx hb hts UX11 hown hK hP 0 rfl rfl 14 (by decide) L29 (fun _ h9 => h9) rfl dX11_isStartOf_18 ?_
  refine lv_iconst (v := iI (1)) hx hb dX11_isStartOf_21 rfl ?_
  refine lv_iload_n hx hb dX11_isStartOf_22 rfl (lv_at hl 1 rfl) ?_
  refine lv_bipush (v := iI (8)) hx hb dX11_isStartOf_23 (by decide) ?_
  refine j_idiv hx hb (by omega) dX11_isStartOf_25 ?_
  refine lv_aload_n hx hb dX11_isStartOf_26 rfl (lv_at hl 0 rfl) ?_
  refine va_get (D := D) (ci := 11) (v := .ref h41) (C := RX11) (T := TX11) (N := 32) hx hb hts UX11 hown hK hP 0 rfl rfl 9 (by decide) L13 (fun _ h9 => h9) rfl dX11_isStartOf_27 ?_
  refine lv_iconst (v := iI (0)) hx hb dX11_isStartOf_30 rfl ?_
  refine j_iald hx hb hK hP 1 0 rfl rfl (by omega) dX11_isStartOf_31 ?_
  refine j_idiv hx hb (by omega) dX11_isStartOf_32 ?_
  refine j_iast hx hb hK hP hD hS 3 0 rfl rfl (by omega) dX11_isStartOf_33 (fun H locs hP hD hS => ?_)
  have hP : va_P D vwCl [(h0, .inr (11, [.int (iI (th)), .long (lI (tra)), .ref h40, .int (iI (tn)), .int (iI (nx)), .int (iI (tk)), .int (iI (pl)), .int (iI (va)), .int (iI (fl)), .ref h41, .ref h42, .ref h43, .ref h44, .ref h45, .ref h46, .ref h47, .ref h48, .ref h49, .ref h50, .ref h51, .int (iI (tc)), .ref h52, .int (iI (km)), .int (iI (bI dr)), .int (iI (ta)), .int (iI (le)), .int (iI (rm9)), .int (iI (rc9)), .int (iI (fa)), .int (iI (tr)), .int (iI (ro)), .int (iI (lo))])), (h41, .inl (cI, 18, .inl (aI td))), (h42, .inl (cI, 512, .inl (aI gd))), (h46, .inl (cI, 4, .inl (aI (upZ (upZ wk 0 ((k9 / 8) % (td 0))) 1 ((k9 / 8) / (td 0))))))] H := hP
  have hD : va_D A [(h0, .inr (11, [.int (iI (th)), .long (lI (tra)), .ref h40, .int (iI (tn)), .int (iI (nx)), .int (iI (tk)), .int (iI (pl)), .int (iI (va)), .int (iI (fl)), .ref h41, .ref h42, .ref h43, .ref h44, .ref h45, .ref h46, .ref h47, .ref h48, .ref h49, .ref h50, .ref h51, .int (iI (tc)), .ref h52, .int (iI (km)), .int (iI (bI dr)), .int (iI (ta)), .int (iI (le)), .int (iI (rm9)), .int (iI (rc9)), .int (iI (fa)), .int (iI (tr)), .int (iI (ro)), .int (iI (lo))])), (h41, .inl (cI, 18, .inl (aI td))), (h42, .inl (cI, 512, .inl (aI gd))), (h46, .inl (cI, 4, .inl (aI (upZ (upZ wk 0 ((k9 / 8) % (td 0))) 1 ((k9 / 8) / (td 0))))))] := hD
  refine lv_aload_n hx hb dX11_isStartOf_34 rfl (lv_at hl 0 rfl) ?_
  refine va_get (D := D) (ci := 11) (v := .ref h46) (C := RX11) (T := TX11) (N := 32) hx hb hts UX11 hown hK hP 0 rfl rfl 14 (by decide) L29 (fun _ h9 => h9) rfl dX11_isStartOf_35 ?_
  refine lv_iconst (v := iI (2)) hx hb dX11_isStartOf_38 rfl ?_
  refine lv_iload_n hx hb dX11_isStartOf_39 rfl (lv_at hl 1 rfl) ?_
  refine lv_bipush (v := iI (8)) hx hb dX11_isStartOf_40 (by decide) ?_
  refine j_irem hx hb (by omega) dX11_isStartOf_42 ?_
  refine j_iast hx hb hK hP hD hS 3 0 rfl rfl (by omega) dX11_isStartOf_43 (fun H locs hP hD hS => ?_)
  have hP : va_P D vwCl [(h0, .inr (11, [.int (iI (th)), .long (lI (tra)), .ref h40, .int (iI (tn)), .int (iI (nx)), .int (iI (tk)), .int (iI (pl)), .int (iI (va)), .int (iI (fl)), .ref h41, .ref h42, .ref h43, .ref h44, .ref h45, .ref h46, .ref h47, .ref h48, .ref h49, .ref h50, .ref h51, .int (iI (tc)), .ref h52, .int (iI (km)), .int (iI (bI dr)), .int (iI (ta)), .int (iI (le)), .int (iI (rm9)), .int (iI (rc9)), .int (iI (fa)), .int (iI (tr)), .int (iI (ro)), .int (iI (lo))])), (h41, .inl (cI, 18, .inl (aI td))), (h42, .inl (cI, 512, .inl (aI gd))), (h46, .inl (cI, 4, .inl (aI (upZ (upZ (upZ wk 0 ((k9 / 8) % (td 0))) 1 ((k9 / 8) / (td 0))) 2 (k9 % 8)))))] H := hP
  have hD : va_D A [(h0, .inr (11, [.int (iI (th)), .long (lI (tra)), .ref h40, .int (iI (tn)), .int (iI (nx)), .int (iI (tk)), .int (iI (pl)), .int (iI (va)), .int (iI (fl)), .ref h41, .ref h42, .ref h43, .ref h44, .ref h45, .ref h46, .ref h47, .ref h48, .ref h49, .ref h50, .ref h51, .int (iI (tc)), .ref h52, .int (iI (km)), .int (iI (bI dr)), .int (iI (ta)), .int (iI (le)), .int (iI (rm9)), .int (iI (rc9)), .int (iI (fa)), .int (iI (tr)), .int (iI (ro)), .int (iI (lo))])), (h41, .inl (cI, 18, .inl (aI td))), (h42, .inl (cI, 512, .inl (aI gd))), (h46, .inl (cI, 4, .inl (aI (upZ (upZ (upZ wk 0 ((k9 / 8) % (td 0))) 1 ((k9 / 8) / (td 0))) 2 (k9 % 8)))))] := hD
  refine lv_aload_n hx hb dX11_isStartOf_44 rfl (lv_at hl 0 rfl) ?_
  refine va_get (D := D) (ci := 11) (v := .ref h46) (C := RX11) (T := TX11) (N := 32) hx hb hts UX11 hown hK hP 0 rfl rfl 14 (by decide) L29 (fun _ h9 => h9) rfl dX11_isStartOf_45 ?_
  refine lv_iconst (v := iI (3)) hx hb dX11_isStartOf_48 rfl ?_
  refine lv_iconst (v := iI (0)) hx hb dX11_isStartOf_49 rfl ?_
  refine j_iast hx hb hK hP hD hS 3 0 rfl rfl (by omega) dX11_isStartOf_50 (fun H locs hP hD hS => ?_)
  have hP : va_P D vwCl [(h0, .inr (11, [.int (iI (th)), .long (lI (tra)), .ref h40, .int (iI (tn)), .int (iI (nx)), .int (iI (tk)), .int (iI (pl)), .int (iI (va)), .int (iI (fl)), .ref h41, .ref h42, .ref h43, .ref h44, .ref h45, .ref h46, .ref h47, .ref h48, .ref h49, .ref h50, .ref h51, .int (iI (tc)), .ref h52, .int (iI (km)), .int (iI (bI dr)), .int (iI (ta)), .int (iI (le)), .int (iI (rm9)), .int (iI (rc9)), .int (iI (fa)), .int (iI (tr)), .int (iI (ro)), .int (iI (lo))])), (h41, .inl (cI, 18, .inl (aI td))), (h42, .inl (cI, 512, .inl (aI gd))), (h46, .inl (cI, 4, .inl (aI (upZ (upZ (upZ (upZ wk 0 ((k9 / 8) % (td 0))) 1 ((k9 / 8) / (td 0))) 2 (k9 % 8)) 3 0))))] H := hP
  have hD : va_D A [(h0, .inr (11, [.int (iI (th)), .long (lI (tra)), .ref h40, .int (iI (tn)), .int (iI (nx)), .int (iI (tk)), .int (iI (pl)), .int (iI (va)), .int (iI (fl)), .ref h41, .ref h42, .ref h43, .ref h44, .ref h45, .ref h46, .ref h47, .ref h48, .ref h49, .ref h50, .ref h51, .int (iI (tc)), .ref h52, .int (iI (km)), .int (iI (bI dr)), .int (iI (ta)), .int (iI (le)), .int (iI (rm9)), .int (iI (rc9)), .int (iI (fa)), .int (iI (tr)), .int (iI (ro)), .int (iI (lo))])), (h41, .inl (cI, 18, .inl (aI td))), (h42, .inl (cI, 512, .inl (aI gd))), (h46, .inl (cI, 4, .inl (aI (upZ (upZ (upZ (upZ wk 0 ((k9 / 8) % (td 0))) 1 ((k9 / 8) / (td 0))) 2 (k9 % 8)) 3 0))))] := hD
  refine lv_aload_n hx hb dX11_isStartOf_51 rfl (lv_at hl 0 rfl) ?_
  refine lv_aload_n hx hb dX11_isStartOf_52 rfl (lv_at hl 0 rfl) ?_
  refine va_get (D := D) (ci := 11) (v := .ref h46) (C := RX11) (T := TX11) (N := 32) hx hb hts UX11 hown hK hP 0 rfl rfl 14 (by decide) L29 (fun _ h9 => h9) rfl dX11_isStartOf_53 ?_
  refine lv_iconst (v := iI (0)) hx hb dX11_isStartOf_56 rfl ?_
  refine j_iald hx hb hK hP 3 0 rfl rfl (by omega) dX11_isStartOf_57 ?_
  refine j_top (fun x0 ex0 => ?_)
  rw [upZ_n (by decide), upZ_n (by decide), upZ_n (by decide), upZ_s] at ex0
  refine lv_aload_n hx hb dX11_isStartOf_58 rfl (lv_at hl 0 rfl) ?_
  refine va_get (D := D) (ci := 11) (v := .ref h46) (C := RX11) (T := TX11) (N := 32) hx hb hts UX11 hown hK hP 0 rfl rfl 14 (by decide) L29 (fun _ h9 => h9) rfl dX11_isStartOf_59 ?_
  refine lv_iconst (v := iI (1)) hx hb dX11_isStartOf_62 rfl ?_
  refine j_iald hx hb hK hP 3 0 rfl rfl (by omega) dX11_isStartOf_63 ?_
  refine j_top (fun y0 ey0 => ?_)
  rw [upZ_n (by decide), upZ_n (by decide), upZ_s] at ey0
  refine j_rd (va_runV (As := [.int (iI (x0)), .int (iI (y0))]) (rest := []) ⟨hx, hb, hml, hown, hts⟩ (c_X11_at l D cI cZ z h0 h40 h41 h42 h43 h44 h45 h46 h47 h48 h49 h50 h51 h52 x0 y0 th tra tn nx tk pl va fl tc km ta le rm9 rc9 fa tr ro lo td gd dr (by first | assumption | omega) (by first | assumption | omega) (by first | assumption | omega) (by first | assumption | omega) (by first | assumption | omega) H.size) (cwV 2 hts gX11_isStartOf_X11_at rfl rfl rfl hvX11_at ⟨Nat.le_of_ble_eq_true rfl, Nat.le_of_ble_eq_true rfl⟩) (j_preV hP hD hK hS hZ hA [0, 1, 2] rfl rfl 0 rfl rfl) rfl rfl hl.1 rfl (lv_room (Nat.le_of_ble_eq_true rfl)) dX11_isStartOf_64 ⟨Nat.zero_le _, Nat.zero_le _⟩) ?_
  have hxy : mA (td 0) (td 1) gd x0 y0 = mA (td 0) (td 1) gd (k9 / 8 % td 0) (k9 / 8 / td 0) := (by rw [ex0, ey0])
  refine j_if_ne (tgt := 74) hx hb (by omega) dX11_isStartOf_67 (by decide) (fun c_67 => ?_) (fun c_67 => ?_)
  · refine lv_iconst (v := iI (0)) hx hb dX11_isStartOf_74 rfl ?_
    rw [hQ]; exact jm_zret (upZ (upZ (upZ (upZ wk 0 ((k9 / 8) % (td 0))) 1 ((k9 / 8) / (td 0))) 2 (k9 % 8)) 3 0) hx hb hr hlocks jn_0 hS hP (jo_i (by first | (rw [decide_eq_true (by omega)]; rfl) | (rw [decide_eq_false (by omega)]; rfl))) (by (try dsimp only); refine ⟨?_, ?_, ?_, ?_⟩ <;> (simp [upZ]; done)) dX11_isStartOf_75
  · refine lv_iconst (v := iI (1)) hx hb dX11_isStartOf_70 rfl ?_
    refine lv_goto (tgt := 75) hx hb dX11_isStartOf_71 (by decide) ?_
    rw [hQ]; exact jm_zret (upZ (upZ (upZ (upZ wk 0 ((k9 / 8) % (td 0))) 1 ((k9 / 8) / (td 0))) 2 (k9 % 8)) 3 0) hx hb hr hlocks jn_1 hS hP (jo_i (by first | (rw [decide_eq_true (by omega)]; rfl) | (rw [decide_eq_false (by omega)]; rfl))) (by (try dsimp only); refine ⟨?_, ?_, ?_, ?_⟩ <;> (simp [upZ]; done)) dX11_isStartOf_75
