theorem hsX11_gcd : yX11_gcd.cls ≠ "java/lang/invoke/MethodHandle" ∧ yX11_gcd.cls ≠ "java/lang/invoke/VarHandle" ∧ (parseMethodDescriptor yX11_gcd.desc).map (fun d => d.parameters.length) = some 2 := by decide +kernel
theorem hvX11_gcd : yX11_gcd.cls = RX11 ∧ yX11_gcd.cls ≠ "java/lang/invoke/MethodHandle" ∧ yX11_gcd.cls ≠ "java/lang/invoke/VarHandle" ∧ (parseMethodDescriptor yX11_gcd.desc).map (fun d => d.parameters.length) = some 2 := ⟨rfl, hsX11_gcd⟩
abbrev rmX11_circle : Room := { frames := 1, cells := 0, slots := 0, locals := 29 }
set_option maxHeartbeats 4000000 in
set_option maxRecDepth 100000 in
theorem c_X11_circle (l : Launch) (D : va_G) (cI cZ : ClassId) (z : jZT) (h0 h40 h41 h42 h43 h44 h45 h46 h47 h48 h49 h50 h51 h52 : Nat) (x y th tra tn nx tk pl va fl tc km ta le rm9 rc9 fa tr ro lo : Int) (dr : Bool) (hx : -2147483648 ≤ x ∧ x < 2147483648) (hy : -2147483648 ≤ y ∧ y < 2147483648) : jMu (S := Int) l yX11_circle wsX11_circle rmX11_circle [.ref h0, .int (iI (x)), .int (iI (y))] D cI cZ z [(h0, .inr (11, [.int (iI (th)), .long (lI (tra)), .ref h40, .int (iI (tn)), .int (iI (nx)), .int (iI (tk)), .int (iI (pl)), .int (iI (va)), .int (iI (fl)), .ref h41, .ref h42, .ref h43, .ref h44, .ref h45, .ref h46, .ref h47, .ref h48, .ref h49, .ref h50, .ref h51, .int (iI (tc)), .ref h52, .int (iI (km)), .int (iI (bI dr)), .int (iI (ta)), .int (iI (le)), .int (iI (rm9)), .int (iI (rc9)), .int (iI (fa)), .int (iI (tr)), .int (iI (ro)), .int (iI (lo))]))] (fun u => some (.int (iI (u)))) (fun u => u = circF x y) (fun u => [(h0, .inr (11, [.int (iI (0)), .long (lI (tra)), .ref h40, .int (iI (tn)), .int (iI (nx)), .int (iI (tk)), .int (iI (pl)), .int (iI (va)), .int (iI (fl)), .ref h41, .ref h42, .ref h43, .ref h44, .ref h45, .ref h46, .ref h47, .ref h48, .ref h49, .ref h50, .ref h51, .int (iI (tc)), .ref h52, .int (iI (km)), .int (iI (bI dr)), .int (iI (ta)), .int (iI (le)), .int (iI (rm9)), .int (iI (rc9)), .int (iI (fa)), .int (iI (tr)), .int (iI (ro)), .int (iI (lo))]))]) := by
  refine jMu_of (cc := cX11_circle) (n := 3) (ret := (some .int)) (by decide) rfl (Nat.le_of_ble_eq_true rfl) ?_
  intro p e s m below meth c A ls args Q hQ F hA hZ hP hK hD hS hl
  obtain ⟨hx, hb, hr, hml, hown, hts, hlocks⟩ := F
  have hown : s.vm.findClass RX11 = some m.cls := hown
  have hl : lv_has ls 3 [(0, .ref h0), (1, .int (iI (x))), (2, .int (iI (y)))] := hl
  have L56 := hts (.fieldLink RX11 56 "TinMouseModel" "thrown" "I") (by decide +kernel)
  have UX11 : ∀ w ∈ wsX110, w ∈ wsX11_circle := fun w h => List.mem_cons_of_mem _ (List.mem_append_right _ h)
  refine lv_aload_n hx hb dX11_circle_0 rfl (lv_at hl 0 rfl) ?_
  refine lv_iconst (v := iI (0)) hx hb dX11_circle_1 rfl ?_
  refine va_put (D := D) (ci := 11) (v := .int (iI (0))) (ty := .int) (C := RX11) (T := TX11) (N := 32) hx hb hts UX11 tyX11 tyX11_ok nmX11 hown hK hP hD hS 0 rfl rfl 0 (by decide) L56 (fun _ h9 => h9) rfl rfl rfl rfl (Nat.le_of_ble_eq_true rfl) dX11_circle_2 (fun H locs hP hD hS => ?_)
  have hP : va_P D vwCl [(h0, .inr (11, [.int (iI (0)), .long (lI (tra)), .ref h40, .int (iI (tn)), .int (iI (nx)), .int (iI (tk)), .int (iI (pl)), .int (iI (va)), .int (iI (fl)), .ref h41, .ref h42, .ref h43, .ref h44, .ref h45, .ref h46, .ref h47, .ref h48, .ref h49, .ref h50, .ref h51, .int (iI (tc)), .ref h52, .int (iI (km)), .int (iI (bI dr)), .int (iI (ta)), .int (iI (le)), .int (iI (rm9)), .int (iI (rc9)), .int (iI (fa)), .int (iI (tr)), .int (iI (ro)), .int (iI (lo))]))] H := hP
  have hD : va_D A [(h0, .inr (11, [.int (iI (0)), .long (lI (tra)), .ref h40, .int (iI (tn)), .int (iI (nx)), .int (iI (tk)), .int (iI (pl)), .int (iI (va)), .int (iI (fl)), .ref h41, .ref h42, .ref h43, .ref h44, .ref h45, .ref h46, .ref h47, .ref h48, .ref h49, .ref h50, .ref h51, .int (iI (tc)), .ref h52, .int (iI (km)), .int (iI (bI dr)), .int (iI (ta)), .int (iI (le)), .int (iI (rm9)), .int (iI (rc9)), .int (iI (fa)), .int (iI (tr)), .int (iI (ro)), .int (iI (lo))]))] := hD
  refine lv_iload_n hx hb dX11_circle_5 rfl (lv_at hl 2 rfl) ?_
  refine lv_iconst (v := iI (1)) hx hb dX11_circle_6 rfl ?_
  refine lv_sipush (v := iI (360)) hx hb dX11_circle_7 (by decide) ?_
  refine j_rd (va_runS (As := [.int (iI (y)), .int (iI (1)), .int (iI (360))]) (rest := []) ⟨hx, hb, hml, hown, hts⟩ (c_X11_in l D cI cZ z y 1 360 (by first | assumption | omega) (by first | assumption | omega) (by first | assumption | omega) H.size) (va_cwS 3 hts gX11_circle_X11_in rfl rfl rfl hsX11_in ⟨Nat.le_of_ble_eq_true rfl, Nat.le_of_ble_eq_true rfl⟩) (j_preS hP hD hK hS hZ hA [] rfl rfl) rfl rfl hl.1 rfl (lv_room (Nat.le_of_ble_eq_true rfl)) dX11_circle_10 ⟨Nat.zero_le _, Nat.zero_le _⟩) ?_
  refine j_ifeq_d (tgt := 27) hx hb dX11_circle_13 (by decide) (fun c_13 => ?_) (fun c_13 => ?_)
  · refine lv_iconst (v := iI (-1)) hx hb dX11_circle_27 rfl ?_
    rw [hQ]; exact jm_iret (-1) hx hb hr hlocks hS hP rfl (by (try dsimp only); unfold circF; first | (rw [if_pos (by omega)]; done) | (rw [if_neg (by omega), Int.tdiv_eq_ediv_of_nonneg (by omega)]; done)) dX11_circle_28
  · refine lv_iload_n hx hb dX11_circle_16 rfl (lv_at hl 1 rfl) ?_
    refine lv_iconst (v := iI (0)) hx hb dX11_circle_17 rfl ?_
    refine lv_iload_n hx hb dX11_circle_18 rfl (lv_at hl 2 rfl) ?_
    refine lv_iconst (v := iI (1)) hx hb dX11_circle_19 rfl ?_
    refine j_isub hx hb dX11_circle_20 ?_
    refine j_rd (va_runS (As := [.int (iI (x)), .int (iI (0)), .int (iI (y - 1))]) (rest := []) ⟨hx, hb, hml, hown, hts⟩ (c_X11_in l D cI cZ z x 0 (y - 1) (by first | assumption | omega) (by first | assumption | omega) (by first | assumption | omega) H.size) (va_cwS 3 hts gX11_circle_X11_in rfl rfl rfl hsX11_in ⟨Nat.le_of_ble_eq_true rfl, Nat.le_of_ble_eq_true rfl⟩) (j_preS hP hD hK hS hZ hA [] rfl rfl) rfl rfl hl.1 rfl (lv_room (Nat.le_of_ble_eq_true rfl)) dX11_circle_21 ⟨Nat.zero_le _, Nat.zero_le _⟩) ?_
    refine j_ifne_d (tgt := 29) hx hb dX11_circle_24 (by decide) (fun c_24 => ?_) (fun c_24 => ?_)
    · have hgl := gcI_le (a := 2 * x) (show 0 < y by omega)
      refine lv_iload_n hx hb dX11_circle_29 rfl (lv_at hl 2 rfl) ?_
      refine j_i2l hx hb (by omega) dX11_circle_30 ?_
      refine lv_iconst (v := iI (2)) hx hb dX11_circle_31 rfl ?_
      refine lv_iload_n hx hb dX11_circle_32 rfl (lv_at hl 1 rfl) ?_
      refine j_imul hx hb dX11_circle_33 ?_
      refine j_i2l hx hb (by omega) dX11_circle_34 ?_
      refine lv_iload_n hx hb dX11_circle_35 rfl (lv_at hl 2 rfl) ?_
      refine j_i2l hx hb (by omega) dX11_circle_36 ?_
      refine j_rd (va_runS (As := [.long (lI (2 * x)), .long (lI (y))]) (rest := [.long (lI (y))]) ⟨hx, hb, hml, hown, hts⟩ (c_X11_gcd l D cI cZ z (2 * x) y (by first | assumption | omega) (by first | assumption | omega) H.size) (va_cwS 2 hts gX11_circle_X11_gcd rfl rfl rfl hsX11_gcd ⟨Nat.le_of_ble_eq_true rfl, Nat.le_of_ble_eq_true rfl⟩) (j_preS hP hD hK hS hZ hA [] rfl rfl) rfl rfl hl.1 rfl (lv_room (Nat.le_of_ble_eq_true rfl)) dX11_circle_37 ⟨Nat.zero_le _, Nat.zero_le _⟩) ?_
      refine j_ldiv hx hb (by omega) dX11_circle_40 ?_
      refine j_l2i hx hb dX11_circle_41 ?_
      rw [hQ]; exact jm_iret (Int.tdiv y (gcI (2 * x) y)) hx hb hr hlocks hS hP rfl (by (try dsimp only); unfold circF; first | (rw [if_pos (by omega)]; done) | (rw [if_neg (by omega), Int.tdiv_eq_ediv_of_nonneg (by omega)]; done)) dX11_circle_42
    · refine lv_iconst (v := iI (-1)) hx hb dX11_circle_27 rfl ?_
      rw [hQ]; exact jm_iret (-1) hx hb hr hlocks hS hP rfl (by (try dsimp only); unfold circF; first | (rw [if_pos (by omega)]; done) | (rw [if_neg (by omega), Int.tdiv_eq_ediv_of_nonneg (by omega)]; done)) dX11_circle_28
