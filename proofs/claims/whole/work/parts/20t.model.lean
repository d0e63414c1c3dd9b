abbrev rmX11_keep : Room := { frames := 1, cells := 0, slots := 0, locals := 22 }
set_option maxHeartbeats 4000000 in
set_option maxRecDepth 100000 in
theorem c_X11_keep (l : Launch) (D : va_G) (cI cZ : ClassId) (z : jZT) (h0 h40 h41 h42 h43 h44 h45 h46 h47 h48 h49 h50 h51 h52 : Nat) (w th tra tn nx tk pl va fl tc km ta le rm9 rc9 fa tr ro lo : Int) (sa kp ik : Int → Int) (dr : Bool) (hw : -2147483648 ≤ w ∧ w < 2147483648) : jMu (S := (Int → Int) × (Int → Int) × Int) l yX11_keep wsX11_keep rmX11_keep [.ref h0, .int (iI (w))] D cI cZ z [(h0, .inr (11, [.int (iI (th)), .long (lI (tra)), .ref h40, .int (iI (tn)), .int (iI (nx)), .int (iI (tk)), .int (iI (pl)), .int (iI (va)), .int (iI (fl)), .ref h41, .ref h42, .ref h43, .ref h44, .ref h45, .ref h46, .ref h47, .ref h48, .ref h49, .ref h50, .ref h51, .int (iI (tc)), .ref h52, .int (iI (km)), .int (iI (bI dr)), .int (iI (ta)), .int (iI (le)), .int (iI (rm9)), .int (iI (rc9)), .int (iI (fa)), .int (iI (tr)), .int (iI (ro)), .int (iI (lo))])), (h43, .inl (cI, 12, .inl (aI sa))), (h44, .inl (cI, 24, .inl (aI kp))), (h45, .inl (cZ, 2, .inl (aI ik)))] (fun u => some (.int (iI (u.2.2)))) (fun u => (w < 0 ∨ 1 < w → u.2.2 = -1 ∧ u.1 = kp ∧ u.2.1 = ik) ∧ (0 ≤ w ∧ w ≤ 1 → u.2.2 = sa 5 ∧ u.2.1 = upZ ik w 1 ∧ (∀ j : Int, 0 ≤ j → j < 12 → u.1 (12 * w + j) = sa j) ∧ ∀ j : Int, j < 12 * w ∨ 12 * w + 12 ≤ j → u.1 j = kp j)) (fun u => [(h0, .inr (11, [.int (iI (0)), .long (lI (tra)), .ref h40, .int (iI (tn)), .int (iI (nx)), .int (iI (tk)), .int (iI (pl)), .int (iI (va)), .int (iI (fl)), .ref h41, .ref h42, .ref h43, .ref h44, .ref h45, .ref h46, .ref h47, .ref h48, .ref h49, .ref h50, .ref h51, .int (iI (tc)), .ref h52, .int (iI (km)), .int (iI (bI dr)), .int (iI (ta)), .int (iI (le)), .int (iI (rm9)), .int (iI (rc9)), .int (iI (fa)), .int (iI (tr)), .int (iI (ro)), .int (iI (lo))])), (h43, .inl (cI, 12, .inl (aI sa))), (h44, .inl (cI, 24, .inl (aI u.1))), (h45, .inl (cZ, 2, .inl (aI u.2.1)))]) := by
  refine jMu_of (cc := cX11_keep) (n := 3) (ret := (some .int)) (by decide) rfl (Nat.le_of_ble_eq_true rfl) ?_
  intro p e s m below meth c A ls args Q hQ F hA hZ hP hK hD hS hl
  obtain ⟨hx, hb, hr, hml, hown, hts, hlocks⟩ := F
  have hown : s.vm.findClass RX11 = some m.cls := hown
  have hl : lv_has ls 3 [(0, .ref h0), (1, .int (iI (w)))] := hl
  have L56 := hts (.fieldLink RX11 56 "TinMouseModel" "thrown" "I") (by decide +kernel)
  have L25 := hts (.fieldLink RX11 25 "TinMouseModel" "isKept" "[Z") (by decide +kernel)
  have L19 := hts (.fieldLink RX11 19 "TinMouseModel" "s" "[I") (by decide +kernel)
  have L22 := hts (.fieldLink RX11 22 "TinMouseModel" "kept" "[I") (by decide +kernel)
  have UX11 : ∀ w ∈ wsX110, w ∈ wsX11_keep := fun w h => List.mem_cons_of_mem _ (List.mem_append_right _ h)
  refine lv_aload_n hx hb dX11_keep_0 rfl (lv_at hl 0 rfl) ?_
  refine lv_iconst (v := iI (0)) hx hb dX11_keep_1 rfl ?_
  refine va_put (D := D) (ci := 11) (v := .int (iI (0))) (ty := .int) (C := RX11) (T := TX11) (N := 32) hx hb hts UX11 tyX11 tyX11_ok nmX11 hown hK hP hD hS 0 rfl rfl 0 (by decide) L56 (fun _ h9 => h9) rfl rfl rfl rfl (Nat.le_of_ble_eq_true rfl) dX11_keep_2 (fun H locs hP hD hS => ?_)
  have hP : va_P D vwCl [(h0, .inr (11, [.int (iI (0)), .long (lI (tra)), .ref h40, .int (iI (tn)), .int (iI (nx)), .int (iI (tk)), .int (iI (pl)), .int (iI (va)), .int (iI (fl)), .ref h41, .ref h42, .ref h43, .ref h44, .ref h45, .ref h46, .ref h47, .ref h48, .ref h49, .ref h50, .ref h51, .int (iI (tc)), .ref h52, .int (iI (km)), .int (iI (bI dr)), .int (iI (ta)), .int (iI (le)), .int (iI (rm9)), .int (iI (rc9)), .int (iI (fa)), .int (iI (tr)), .int (iI (ro)), .int (iI (lo))])), (h43, .inl (cI, 12, .inl (aI sa))), (h44, .inl (cI, 24, .inl (aI kp))), (h45, .inl (cZ, 2, .inl (aI ik)))] H := hP
  have hD : va_D A [(h0, .inr (11, [.int (iI (0)), .long (lI (tra)), .ref h40, .int (iI (tn)), .int (iI (nx)), .int (iI (tk)), .int (iI (pl)), .int (iI (va)), .int (iI (fl)), .ref h41, .ref h42, .ref h43, .ref h44, .ref h45, .ref h46, .ref h47, .ref h48, .ref h49, .ref h50, .ref h51, .int (iI (tc)), .ref h52, .int (iI (km)), .int (iI (bI dr)), .int (iI (ta)), .int (iI (le)), .int (iI (rm9)), .int (iI (rc9)), .int (iI (fa)), .int (iI (tr)), .int (iI (ro)), .int (iI (lo))])), (h43, .inl (cI, 12, .inl (aI sa))), (h44, .inl (cI, 24, .inl (aI kp))), (h45, .inl (cZ, 2, .inl (aI ik)))] := hD
  refine lv_iload_n hx hb dX11_keep_5 rfl (lv_at hl 1 rfl) ?_
  refine lv_iconst (v := iI (0)) hx hb dX11_keep_6 rfl ?_
  refine lv_iconst (v := iI (1)) hx hb dX11_keep_7 rfl ?_
  refine j_rd (va_runS (As := [.int (iI (w)), .int (iI (0)), .int (iI (1))]) (rest := []) ⟨hx, hb, hml, hown, hts⟩ (c_X11_in l D cI cZ z w 0 1 (by first | assumption | omega) (by first | assumption | omega) (by first | assumption | omega) H.size) (va_cwS 3 hts gX11_keep_X11_in rfl rfl rfl hsX11_in ⟨Nat.le_of_ble_eq_true rfl, Nat.le_of_ble_eq_true rfl⟩) (j_preS hP hD hK hS hZ hA [] rfl rfl) rfl rfl hl.1 rfl (lv_room (Nat.le_of_ble_eq_true rfl)) dX11_keep_8 ⟨Nat.zero_le _, Nat.zero_le _⟩) ?_
  refine j_ifne_d (tgt := 16) hx hb dX11_keep_11 (by decide) (fun c_11 => ?_) (fun c_11 => ?_)
  · refine lv_iconst (v := iI (0)) hx hb dX11_keep_16 rfl ?_
    refine lv_istore_n (lv' := [(2, .int (iI (0))), (0, .ref h0), (1, .int (iI (w)))]) hx hb dX11_keep_17 rfl hl (by decide) rfl (fun ls hl => ?_)
    have loop_18 : ∀ (fuel_18 : Nat) (i : Int) (kp9 : Int → Int), ((0 ≤ i ∧ i ≤ 12) ∧ (∀ j : Int, 0 ≤ j → j < i → kp9 (12 * w + j) = sa j) ∧ ∀ j : Int, j < 12 * w ∨ 12 * w + 12 ≤ j → kp9 j = kp j) → (12 - i).toNat < fuel_18 → ∀ (H : Heap) (locs : List Loc), va_P D vwCl [(h0, .inr (11, [.int (iI (0)), .long (lI (tra)), .ref h40, .int (iI (tn)), .int (iI (nx)), .int (iI (tk)), .int (iI (pl)), .int (iI (va)), .int (iI (fl)), .ref h41, .ref h42, .ref h43, .ref h44, .ref h45, .ref h46, .ref h47, .ref h48, .ref h49, .ref h50, .ref h51, .int (iI (tc)), .ref h52, .int (iI (km)), .int (iI (bI dr)), .int (iI (ta)), .int (iI (le)), .int (iI (rm9)), .int (iI (rc9)), .int (iI (fa)), .int (iI (tr)), .int (iI (ro)), .int (iI (lo))])), (h43, .inl (cI, 12, .inl (aI sa))), (h44, .inl (cI, 24, .inl (aI kp9))), (h45, .inl (cZ, 2, .inl (aI ik)))] H → va_D A [(h0, .inr (11, [.int (iI (0)), .long (lI (tra)), .ref h40, .int (iI (tn)), .int (iI (nx)), .int (iI (tk)), .int (iI (pl)), .int (iI (va)), .int (iI (fl)), .ref h41, .ref h42, .ref h43, .ref h44, .ref h45, .ref h46, .ref h47, .ref h48, .ref h49, .ref h50, .ref h51, .int (iI (tc)), .ref h52, .int (iI (km)), .int (iI (bI dr)), .int (iI (ta)), .int (iI (le)), .int (iI (rm9)), .int (iI (rc9)), .int (iI (fa)), .int (iI (tr)), .int (iI (ro)), .int (iI (lo))])), (h43, .inl (cI, 12, .inl (aI sa))), (h44, .inl (cI, 24, .inl (aI kp9))), (h45, .inl (cZ, 2, .inl (aI ik)))] → va_S A s.heap H locs → ∀ ls : Array Slot, lv_has ls 3 [(0, .ref h0), (1, .int (iI (w))), (2, .int (iI (i)))] → W p l e rmX11_keep s m args below meth c H locs 0 0 Q (F0 m 18 ls []) := by
      intro fuel_18
      induction fuel_18 with
      | zero => intro i kp9 hI9 hm9; exact absurd hm9 (Nat.not_lt_zero _)
      | succ fuel_18 ih_18 =>
        intro i kp9 hI_18 hm_18 H locs hP hD hS ls hl
        obtain ⟨hi1, hi2, hi3⟩ := hI_18
        refine lv_iload_n hx hb dX11_keep_18 rfl (lv_at hl 2 rfl) ?_
        refine lv_bipush (v := iI (12)) hx hb dX11_keep_19 (by decide) ?_
        refine j_icmp_ge (tgt := 47) hx hb (by omega) dX11_keep_21 (by decide) (fun c_21 => ?_) (fun c_21 => ?_)
        · refine lv_aload_n hx hb dX11_keep_47 rfl (lv_at hl 0 rfl) ?_
          refine va_get (D := D) (ci := 11) (v := .ref h45) (C := RX11) (T := TX11) (N := 32) hx hb hts UX11 hown hK hP 0 rfl rfl 13 (by decide) L25 (fun _ h9 => h9) rfl dX11_keep_48 ?_
          refine lv_iload_n hx hb dX11_keep_51 rfl (lv_at hl 1 rfl) ?_
          refine lv_iconst (v := iI (1)) hx hb dX11_keep_52 rfl ?_
          refine j_zast hx hb hK hP hD hS 3 1 rfl rfl (by rfl) (by omega) dX11_keep_53 (fun H locs hP hD hS => ?_)
          have hP : va_P D vwCl [(h0, .inr (11, [.int (iI (0)), .long (lI (tra)), .ref h40, .int (iI (tn)), .int (iI (nx)), .int (iI (tk)), .int (iI (pl)), .int (iI (va)), .int (iI (fl)), .ref h41, .ref h42, .ref h43, .ref h44, .ref h45, .ref h46, .ref h47, .ref h48, .ref h49, .ref h50, .ref h51, .int (iI (tc)), .ref h52, .int (iI (km)), .int (iI (bI dr)), .int (iI (ta)), .int (iI (le)), .int (iI (rm9)), .int (iI (rc9)), .int (iI (fa)), .int (iI (tr)), .int (iI (ro)), .int (iI (lo))])), (h43, .inl (cI, 12, .inl (aI sa))), (h44, .inl (cI, 24, .inl (aI kp9))), (h45, .inl (cZ, 2, .inl (aI (upZ ik w 1))))] H := hP
          have hD : va_D A [(h0, .inr (11, [.int (iI (0)), .long (lI (tra)), .ref h40, .int (iI (tn)), .int (iI (nx)), .int (iI (tk)), .int (iI (pl)), .int (iI (va)), .int (iI (fl)), .ref h41, .ref h42, .ref h43, .ref h44, .ref h45, .ref h46, .ref h47, .ref h48, .ref h49, .ref h50, .ref h51, .int (iI (tc)), .ref h52, .int (iI (km)), .int (iI (bI dr)), .int (iI (ta)), .int (iI (le)), .int (iI (rm9)), .int (iI (rc9)), .int (iI (fa)), .int (iI (tr)), .int (iI (ro)), .int (iI (lo))])), (h43, .inl (cI, 12, .inl (aI sa))), (h44, .inl (cI, 24, .inl (aI kp9))), (h45, .inl (cZ, 2, .inl (aI (upZ ik w 1))))] := hD
          refine lv_aload_n hx hb dX11_keep_54 rfl (lv_at hl 0 rfl) ?_
          refine va_get (D := D) (ci := 11) (v := .ref h43) (C := RX11) (T := TX11) (N := 32) hx hb hts UX11 hown hK hP 0 rfl rfl 11 (by decide) L19 (fun _ h9 => h9) rfl dX11_keep_55 ?_
          refine lv_iconst (v := iI (5)) hx hb dX11_keep_58 rfl ?_
          refine j_iald hx hb hK hP 1 0 rfl rfl (by omega) dX11_keep_59 ?_
          rw [hQ]; exact jm_iret (kp9, upZ ik w 1, sa 5) hx hb hr hlocks hS hP rfl (by (try dsimp only); first | exact ⟨fun _ => ⟨rfl, rfl, rfl⟩, fun q9 => absurd q9 (by omega)⟩ | exact ⟨fun q9 => absurd q9 (by omega), fun _ => ⟨rfl, rfl, fun j h1 h2 => hi2 j h1 (by omega), hi3⟩⟩) dX11_keep_60
        · refine lv_aload_n hx hb dX11_keep_24 rfl (lv_at hl 0 rfl) ?_
          refine va_get (D := D) (ci := 11) (v := .ref h44) (C := RX11) (T := TX11) (N := 32) hx hb hts UX11 hown hK hP 0 rfl rfl 12 (by decide) L22 (fun _ h9 => h9) rfl dX11_keep_25 ?_
          refine lv_bipush (v := iI (12)) hx hb dX11_keep_28 (by decide) ?_
          refine lv_iload_n hx hb dX11_keep_30 rfl (lv_at hl 1 rfl) ?_
          refine j_imul hx hb dX11_keep_31 ?_
          refine lv_iload_n hx hb dX11_keep_32 rfl (lv_at hl 2 rfl) ?_
          refine j_iadd hx hb dX11_keep_33 ?_
          refine lv_aload_n hx hb dX11_keep_34 rfl (lv_at hl 0 rfl) ?_
          refine va_get (D := D) (ci := 11) (v := .ref h43) (C := RX11) (T := TX11) (N := 32) hx hb hts UX11 hown hK hP 0 rfl rfl 11 (by decide) L19 (fun _ h9 => h9) rfl dX11_keep_35 ?_
          refine lv_iload_n hx hb dX11_keep_38 rfl (lv_at hl 2 rfl) ?_
          refine j_iald hx hb hK hP 1 0 rfl rfl (by omega) dX11_keep_39 ?_
          refine j_iast hx hb hK hP hD hS 2 0 rfl rfl (by omega) dX11_keep_40 (fun H locs hP hD hS => ?_)
          have hP : va_P D vwCl [(h0, .inr (11, [.int (iI (0)), .long (lI (tra)), .ref h40, .int (iI (tn)), .int (iI (nx)), .int (iI (tk)), .int (iI (pl)), .int (iI (va)), .int (iI (fl)), .ref h41, .ref h42, .ref h43, .ref h44, .ref h45, .ref h46, .ref h47, .ref h48, .ref h49, .ref h50, .ref h51, .int (iI (tc)), .ref h52, .int (iI (km)), .int (iI (bI dr)), .int (iI (ta)), .int (iI (le)), .int (iI (rm9)), .int (iI (rc9)), .int (iI (fa)), .int (iI (tr)), .int (iI (ro)), .int (iI (lo))])), (h43, .inl (cI, 12, .inl (aI sa))), (h44, .inl (cI, 24, .inl (aI (upZ kp9 ((12 * w) + i) (sa i))))), (h45, .inl (cZ, 2, .inl (aI ik)))] H := hP
          have hD : va_D A [(h0, .inr (11, [.int (iI (0)), .long (lI (tra)), .ref h40, .int (iI (tn)), .int (iI (nx)), .int (iI (tk)), .int (iI (pl)), .int (iI (va)), .int (iI (fl)), .ref h41, .ref h42, .ref h43, .ref h44, .ref h45, .ref h46, .ref h47, .ref h48, .ref h49, .ref h50, .ref h51, .int (iI (tc)), .ref h52, .int (iI (km)), .int (iI (bI dr)), .int (iI (ta)), .int (iI (le)), .int (iI (rm9)), .int (iI (rc9)), .int (iI (fa)), .int (iI (tr)), .int (iI (ro)), .int (iI (lo))])), (h43, .inl (cI, 12, .inl (aI sa))), (h44, .inl (cI, 24, .inl (aI (upZ kp9 ((12 * w) + i) (sa i))))), (h45, .inl (cZ, 2, .inl (aI ik)))] := hD
          refine lv_iinc (v := iI (i + 1)) (lv' := [(2, .int (iI (i + 1))), (0, .ref h0), (1, .int (iI (w)))]) hx hb dX11_keep_41 hl (k := 2) rfl (iI_add _ _) (by decide) rfl (fun ls hl => ?_)
          refine lv_goto (tgt := 18) hx hb dX11_keep_44 (by decide) ?_
          exact ih_18 ((i + 1)) ((upZ kp9 ((12 * w) + i) (sa i))) (by exact ⟨by omega, fun j h1 h2 => by by_cases hj : j = i <;> first | (rw [hj, upZ_s]; done) | (rw [upZ_n (by omega)]; exact hi2 j h1 (by omega)), fun j h1 => by rw [upZ_n (by omega)]; exact hi3 j h1⟩) (by omega) H locs hP hD hS ls (lv_sub hl [1, 2, 0] rfl)
    exact loop_18 _ 0 kp (by exact ⟨by omega, fun j h1 h2 => by omega, fun j h1 => rfl⟩) (Nat.lt_succ_self _) H locs hP hD hS ls (lv_sub hl [1, 2, 0] rfl)
  · refine lv_iconst (v := iI (-1)) hx hb dX11_keep_14 rfl ?_
    rw [hQ]; exact jm_iret (kp, ik, -1) hx hb hr hlocks hS hP rfl (by (try dsimp only); first | exact ⟨fun _ => ⟨rfl, rfl, rfl⟩, fun q9 => absurd q9 (by omega)⟩ | exact ⟨fun q9 => absurd q9 (by omega), fun _ => ⟨rfl, rfl, fun j h1 h2 => hi2 j h1 (by omega), hi3⟩⟩) dX11_keep_15
