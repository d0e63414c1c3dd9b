abbrev rmX11_back : Room := { frames := 1, cells := 0, slots := 0, locals := 22 }
set_option maxHeartbeats 4000000 in
set_option maxRecDepth 100000 in
theorem c_X11_back (l : Launch) (D : va_G) (cI cZ : ClassId) (z : jZT) (h0 h40 h41 h42 h43 h44 h45 h46 h47 h48 h49 h50 h51 h52 : Nat) (w th tra tn nx tk pl va fl tc km ta le rm9 rc9 fa tr ro lo : Int) (sa kp ik : Int → Int) (dr : Bool) (hw : -2147483648 ≤ w ∧ w < 2147483648) (hik : ∀ j : Int, 0 ≤ j → j < 2 → ik j = 0 ∨ ik j = 1) : jMu (S := (Int → Int) × Int) l yX11_back wsX11_back rmX11_back [.ref h0, .int (iI (w))] D cI cZ z [(h0, .inr (11, [.int (iI (th)), .long (lI (tra)), .ref h40, .int (iI (tn)), .int (iI (nx)), .int (iI (tk)), .int (iI (pl)), .int (iI (va)), .int (iI (fl)), .ref h41, .ref h42, .ref h43, .ref h44, .ref h45, .ref h46, .ref h47, .ref h48, .ref h49, .ref h50, .ref h51, .int (iI (tc)), .ref h52, .int (iI (km)), .int (iI (bI dr)), .int (iI (ta)), .int (iI (le)), .int (iI (rm9)), .int (iI (rc9)), .int (iI (fa)), .int (iI (tr)), .int (iI (ro)), .int (iI (lo))])), (h43, .inl (cI, 12, .inl (aI sa))), (h44, .inl (cI, 24, .inl (aI kp))), (h45, .inl (cZ, 2, .inl (aI ik)))] (fun u => some (.int (iI (u.2)))) (fun u => (w < 0 ∨ 1 < w → u.2 = -1 ∧ u.1 = sa) ∧ (0 ≤ w ∧ w ≤ 1 ∧ ik w = 0 → u.2 = -2 ∧ u.1 = sa) ∧ (0 ≤ w ∧ w ≤ 1 ∧ ik w = 1 → u.2 = u.1 5 ∧ ∀ j : Int, 0 ≤ j → j < 12 → u.1 j = kp (12 * w + j))) (fun u => [(h0, .inr (11, [.int (iI (0)), .long (lI (tra)), .ref h40, .int (iI (tn)), .int (iI (nx)), .int (iI (tk)), .int (iI (pl)), .int (iI (va)), .int (iI (fl)), .ref h41, .ref h42, .ref h43, .ref h44, .ref h45, .ref h46, .ref h47, .ref h48, .ref h49, .ref h50, .ref h51, .int (iI (tc)), .ref h52, .int (iI (km)), .int (iI (bI dr)), .int (iI (ta)), .int (iI (le)), .int (iI (rm9)), .int (iI (rc9)), .int (iI (fa)), .int (iI (tr)), .int (iI (ro)), .int (iI (lo))])), (h43, .inl (cI, 12, .inl (aI u.1))), (h44, .inl (cI, 24, .inl (aI kp))), (h45, .inl (cZ, 2, .inl (aI ik)))]) := by
  refine jMu_of (cc := cX11_back) (n := 3) (ret := (some .int)) (by decide) rfl (Nat.le_of_ble_eq_true rfl) ?_
  intro p e s m below meth c A ls args Q hQ F hA hZ hP hK hD hS hl
  obtain ⟨hx, hb, hr, hml, hown, hts, hlocks⟩ := F
  have hown : s.vm.findClass RX11 = some m.cls := hown
  have hl : lv_has ls 3 [(0, .ref h0), (1, .int (iI (w)))] := hl
  have L56 := hts (.fieldLink RX11 56 "TinMouseModel" "thrown" "I") (by decide +kernel)
  have L25 := hts (.fieldLink RX11 25 "TinMouseModel" "isKept" "[Z") (by decide +kernel)
  have L19 := hts (.fieldLink RX11 19 "TinMouseModel" "s" "[I") (by decide +kernel)
  have L22 := hts (.fieldLink RX11 22 "TinMouseModel" "kept" "[I") (by decide +kernel)
  have UX11 : ∀ w ∈ wsX110, w ∈ wsX11_back := fun w h => List.mem_cons_of_mem _ (List.mem_append_right _ h)
  refine lv_aload_n hx hb dX11_back_0 rfl (lv_at hl 0 rfl) ?_
  refine lv_iconst (v := iI (0)) hx hb dX11_back_1 rfl ?_
  refine va_put (D := D) (ci := 11) (v := .int (iI (0))) (ty := .int) (C := RX11) (T := TX11) (N := 32) hx hb hts UX11 tyX11 tyX11_ok nmX11 hown hK hP hD hS 0 rfl rfl 0 (by decide) L56 (fun _ h9 => h9) rfl rfl rfl rfl (Nat.le_of_ble_eq_true rfl) dX11_back_2 (fun H locs hP hD hS => ?_)
  have hP : va_P D vwCl [(h0, .inr (11, [.int (iI (0)), .long (lI (tra)), .ref h40, .int (iI (tn)), .int (iI (nx)), .int (iI (tk)), .int (iI (pl)), .int (iI (va)), .int (iI (fl)), .ref h41, .ref h42, .ref h43, .ref h44, .ref h45, .ref h46, .ref h47, .ref h48, .ref h49, .ref h50, .ref h51, .int (iI (tc)), .ref h52, .int (iI (km)), .int (iI (bI dr)), .int (iI (ta)), .int (iI (le)), .int (iI (rm9)), .int (iI (rc9)), .int (iI (fa)), .int (iI (tr)), .int (iI (ro)), .int (iI (lo))])), (h43, .inl (cI, 12, .inl (aI sa))), (h44, .inl (cI, 24, .inl (aI kp))), (h45, .inl (cZ, 2, .inl (aI ik)))] H := hP
  have hD : va_D A [(h0, .inr (11, [.int (iI (0)), .long (lI (tra)), .ref h40, .int (iI (tn)), .int (iI (nx)), .int (iI (tk)), .int (iI (pl)), .int (iI (va)), .int (iI (fl)), .ref h41, .ref h42, .ref h43, .ref h44, .ref h45, .ref h46, .ref h47, .ref h48, .ref h49, .ref h50, .ref h51, .int (iI (tc)), .ref h52, .int (iI (km)), .int (iI (bI dr)), .int (iI (ta)), .int (iI (le)), .int (iI (rm9)), .int (iI (rc9)), .int (iI (fa)), .int (iI (tr)), .int (iI (ro)), .int (iI (lo))])), (h43, .inl (cI, 12, .inl (aI sa))), (h44, .inl (cI, 24, .inl (aI kp))), (h45, .inl (cZ, 2, .inl (aI ik)))] := hD
  refine lv_iload_n hx hb dX11_back_5 rfl (lv_at hl 1 rfl) ?_
  refine lv_iconst (v := iI (0)) hx hb dX11_back_6 rfl ?_
  refine lv_iconst (v := iI (1)) hx hb dX11_back_7 rfl ?_
  refine j_rd (va_runS (As := [.int (iI (w)), .int (iI (0)), .int (iI (1))]) (rest := []) ⟨hx, hb, hml, hown, hts⟩ (c_X11_in l D cI cZ z w 0 1 (by first | assumption | omega) (by first | assumption | omega) (by first | assumption | omega) H.size) (va_cwS 3 hts gX11_back_X11_in rfl rfl rfl hsX11_in ⟨Nat.le_of_ble_eq_true rfl, Nat.le_of_ble_eq_true rfl⟩) (j_preS hP hD hK hS hZ hA [] rfl rfl) rfl rfl hl.1 rfl (lv_room (Nat.le_of_ble_eq_true rfl)) dX11_back_8 ⟨Nat.zero_le _, Nat.zero_le _⟩) ?_
  refine j_ifne_d (tgt := 16) hx hb dX11_back_11 (by decide) (fun c_11 => ?_) (fun c_11 => ?_)
  · have hk9 := hik w (by omega) (by omega)
    refine lv_aload_n hx hb dX11_back_16 rfl (lv_at hl 0 rfl) ?_
    refine va_get (D := D) (ci := 11) (v := .ref h45) (C := RX11) (T := TX11) (N := 32) hx hb hts UX11 hown hK hP 0 rfl rfl 13 (by decide) L25 (fun _ h9 => h9) rfl dX11_back_17 ?_
    refine lv_iload_n hx hb dX11_back_20 rfl (lv_at hl 1 rfl) ?_
    refine j_zald hx hb hK hP 3 1 rfl rfl (by omega) dX11_back_21 ?_
    refine j_if_ne (tgt := 28) hx hb (by omega) dX11_back_22 (by decide) (fun c_22 => ?_) (fun c_22 => ?_)
    · refine lv_iconst (v := iI (0)) hx hb dX11_back_28 rfl ?_
      refine lv_istore_n (lv' := [(2, .int (iI (0))), (0, .ref h0), (1, .int (iI (w)))]) hx hb dX11_back_29 rfl hl (by decide) rfl (fun ls hl => ?_)
      have loop_30 : ∀ (fuel_30 : Nat) (i : Int) (sa9 : Int → Int), ((0 ≤ i ∧ i ≤ 12) ∧ (∀ j : Int, 0 ≤ j → j < i → sa9 j = kp (12 * w + j))) → (12 - i).toNat < fuel_30 → ∀ (H : Heap) (locs : List Loc), va_P D vwCl [(h0, .inr (11, [.int (iI (0)), .long (lI (tra)), .ref h40, .int (iI (tn)), .int (iI (nx)), .int (iI (tk)), .int (iI (pl)), .int (iI (va)), .int (iI (fl)), .ref h41, .ref h42, .ref h43, .ref h44, .ref h45, .ref h46, .ref h47, .ref h48, .ref h49, .ref h50, .ref h51, .int (iI (tc)), .ref h52, .int (iI (km)), .int (iI (bI dr)), .int (iI (ta)), .int (iI (le)), .int (iI (rm9)), .int (iI (rc9)), .int (iI (fa)), .int (iI (tr)), .int (iI (ro)), .int (iI (lo))])), (h43, .inl (cI, 12, .inl (aI sa9))), (h44, .inl (cI, 24, .inl (aI kp))), (h45, .inl (cZ, 2, .inl (aI ik)))] H → va_D A [(h0, .inr (11, [.int (iI (0)), .long (lI (tra)), .ref h40, .int (iI (tn)), .int (iI (nx)), .int (iI (tk)), .int (iI (pl)), .int (iI (va)), .int (iI (fl)), .ref h41, .ref h42, .ref h43, .ref h44, .ref h45, .ref h46, .ref h47, .ref h48, .ref h49, .ref h50, .ref h51, .int (iI (tc)), .ref h52, .int (iI (km)), .int (iI (bI dr)), .int (iI (ta)), .int (iI (le)), .int (iI (rm9)), .int (iI (rc9)), .int (iI (fa)), .int (iI (tr)), .int (iI (ro)), .int (iI (lo))])), (h43, .inl (cI, 12, .inl (aI sa9))), (h44, .inl (cI, 24, .inl (aI kp))), (h45, .inl (cZ, 2, .inl (aI ik)))] → va_S A s.heap H locs → ∀ ls : Array Slot, lv_has ls 3 [(0, .ref h0), (1, .int (iI (w))), (2, .int (iI (i)))] → W p l e rmX11_back s m args below meth c H locs 0 0 Q (F0 m 30 ls []) := by
        intro fuel_30
        induction fuel_30 with
        | zero => intro i sa9 hI9 hm9; exact absurd hm9 (Nat.not_lt_zero _)
        | succ fuel_30 ih_30 =>
          intro i sa9 hI_30 hm_30 H locs hP hD hS ls hl
          obtain ⟨hi1, hi2⟩ := hI_30
          refine lv_iload_n hx hb dX11_back_30 rfl (lv_at hl 2 rfl) ?_
          refine lv_bipush (v := iI (12)) hx hb dX11_back_31 (by decide) ?_
          refine j_icmp_ge (tgt := 59) hx hb (by omega) dX11_back_33 (by decide) (fun c_33 => ?_) (fun c_33 => ?_)
          · refine lv_aload_n hx hb dX11_back_59 rfl (lv_at hl 0 rfl) ?_
            refine va_get (D := D) (ci := 11) (v := .ref h43) (C := RX11) (T := TX11) (N := 32) hx hb hts UX11 hown hK hP 0 rfl rfl 11 (by decide) L19 (fun _ h9 => h9) rfl dX11_back_60 ?_
            refine lv_iconst (v := iI (5)) hx hb dX11_back_63 rfl ?_
            refine j_iald hx hb hK hP 1 0 rfl rfl (by omega) dX11_back_64 ?_
            rw [hQ]; exact jm_iret (sa9, sa9 5) hx hb hr hlocks hS hP rfl (by (try dsimp only); first | exact ⟨fun _ => ⟨rfl, rfl⟩, fun q9 => absurd q9 (by omega), fun q9 => absurd q9 (by omega)⟩ | exact ⟨fun q9 => absurd q9 (by omega), fun _ => ⟨rfl, rfl⟩, fun q9 => absurd q9 (by omega)⟩ | exact ⟨fun q9 => absurd q9 (by omega), fun q9 => absurd q9 (by omega), fun _ => ⟨rfl, fun j h1 h2 => hi2 j h1 (by omega)⟩⟩) dX11_back_65
          · refine lv_aload_n hx hb dX11_back_36 rfl (lv_at hl 0 rfl) ?_
            refine va_get (D := D) (ci := 11) (v := .ref h43) (C := RX11) (T := TX11) (N := 32) hx hb hts UX11 hown hK hP 0 rfl rfl 11 (by decide) L19 (fun _ h9 => h9) rfl dX11_back_37 ?_
            refine lv_iload_n hx hb dX11_back_40 rfl (lv_at hl 2 rfl) ?_
            refine lv_aload_n hx hb dX11_back_41 rfl (lv_at hl 0 rfl) ?_
            refine va_get (D := D) (ci := 11) (v := .ref h44) (C := RX11) (T := TX11) (N := 32) hx hb hts UX11 hown hK hP 0 rfl rfl 12 (by decide) L22 (fun _ h9 => h9) rfl dX11_back_42 ?_
            refine lv_bipush (v := iI (12)) hx hb dX11_back_45 (by decide) ?_
            refine lv_iload_n hx hb dX11_back_47 rfl (lv_at hl 1 rfl) ?_
            refine j_imul hx hb dX11_back_48 ?_
            refine lv_iload_n hx hb dX11_back_49 rfl (lv_at hl 2 rfl) ?_
            refine j_iadd hx hb dX11_back_50 ?_
            refine j_iald hx hb hK hP 2 0 rfl rfl (by omega) dX11_back_51 ?_
            refine j_iast hx hb hK hP hD hS 1 0 rfl rfl (by omega) dX11_back_52 (fun H locs hP hD hS => ?_)
            have hP : va_P D vwCl [(h0, .inr (11, [.int (iI (0)), .long (lI (tra)), .ref h40, .int (iI (tn)), .int (iI (nx)), .int (iI (tk)), .int (iI (pl)), .int (iI (va)), .int (iI (fl)), .ref h41, .ref h42, .ref h43, .ref h44, .ref h45, .ref h46, .ref h47, .ref h48, .ref h49, .ref h50, .ref h51, .int (iI (tc)), .ref h52, .int (iI (km)), .int (iI (bI dr)), .int (iI (ta)), .int (iI (le)), .int (iI (rm9)), .int (iI (rc9)), .int (iI (fa)), .int (iI (tr)), .int (iI (ro)), .int (iI (lo))])), (h43, .inl (cI, 12, .inl (aI (upZ sa9 i (kp ((12 * w) + i)))))), (h44, .inl (cI, 24, .inl (aI kp))), (h45, .inl (cZ, 2, .inl (aI ik)))] H := hP
            have hD : va_D A [(h0, .inr (11, [.int (iI (0)), .long (lI (tra)), .ref h40, .int (iI (tn)), .int (iI (nx)), .int (iI (tk)), .int (iI (pl)), .int (iI (va)), .int (iI (fl)), .ref h41, .ref h42, .ref h43, .ref h44, .ref h45, .ref h46, .ref h47, .ref h48, .ref h49, .ref h50, .ref h51, .int (iI (tc)), .ref h52, .int (iI (km)), .int (iI (bI dr)), .int (iI (ta)), .int (iI (le)), .int (iI (rm9)), .int (iI (rc9)), .int (iI (fa)), .int (iI (tr)), .int (iI (ro)), .int (iI (lo))])), (h43, .inl (cI, 12, .inl (aI (upZ sa9 i (kp ((12 * w) + i)))))), (h44, .inl (cI, 24, .inl (aI kp))), (h45, .inl (cZ, 2, .inl (aI ik)))] := hD
            refine lv_iinc (v := iI (i + 1)) (lv' := [(2, .int (iI (i + 1))), (0, .ref h0), (1, .int (iI (w)))]) hx hb dX11_back_53 hl (k := 2) rfl (iI_add _ _) (by decide) rfl (fun ls hl => ?_)
            refine lv_goto (tgt := 30) hx hb dX11_back_56 (by decide) ?_
            exact ih_30 ((i + 1)) ((upZ sa9 i (kp ((12 * w) + i)))) (by exact ⟨by omega, fun j h1 h2 => by by_cases hj : j = i <;> first | (rw [hj, upZ_s]; done) | (rw [upZ_n (by omega)]; exact hi2 j h1 (by omega))⟩) (by omega) H locs hP hD hS ls (lv_sub hl [1, 2, 0] rfl)
      exact loop_30 _ 0 sa (by exact ⟨by omega, fun j h1 h2 => by omega⟩) (Nat.lt_succ_self _) H locs hP hD hS ls (lv_sub hl [1, 2, 0] rfl)
    · refine lv_bipush (v := iI (-2)) hx hb dX11_back_25 (by decide) ?_
      rw [hQ]; exact jm_iret (sa, -2) hx hb hr hlocks hS hP rfl (by (try dsimp only); first | exact ⟨fun _ => ⟨rfl, rfl⟩, fun q9 => absurd q9 (by omega), fun q9 => absurd q9 (by omega)⟩ | exact ⟨fun q9 => absurd q9 (by omega), fun _ => ⟨rfl, rfl⟩, fun q9 => absurd q9 (by omega)⟩ | exact ⟨fun q9 => absurd q9 (by omega), fun q9 => absurd q9 (by omega), fun _ => ⟨rfl, fun j h1 h2 => hi2 j h1 (by omega)⟩⟩) dX11_back_27
  · refine lv_iconst (v := iI (-1)) hx hb dX11_back_14 rfl ?_
    rw [hQ]; exact jm_iret (sa, -1) hx hb hr hlocks hS hP rfl (by (try dsimp only); first | exact ⟨fun _ => ⟨rfl, rfl⟩, fun q9 => absurd q9 (by omega), fun q9 => absurd q9 (by omega)⟩ | exact ⟨fun q9 => absurd q9 (by omega), fun _ => ⟨rfl, rfl⟩, fun q9 => absurd q9 (by omega)⟩ | exact ⟨fun q9 => absurd q9 (by omega), fun q9 => absurd q9 (by omega), fun _ => ⟨rfl, fun j h1 h2 => hi2 j h1 (by omega)⟩⟩) dX11_back_15
