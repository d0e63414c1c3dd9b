abbrev rmX11_toy : Room := { frames := 1, cells := 0, slots := 0, locals := 22 }
set_option maxHeartbeats 4000000 in
set_option maxRecDepth 100000 in
theorem c_X11_toy (l : Launch) (D : va_G) (cI cZ : ClassId) (z : jZT) (h0 h40 h41 h42 h43 h44 h45 h46 h47 h48 h49 h50 h51 h52 : Nat) (w v th tra tn nx tk pl va fl tc km ta le rm9 rc9 fa tr ro lo : Int) (td : Int → Int) (dr : Bool) (hw : -2147483648 ≤ w ∧ w < 2147483648) (hv : -2147483648 ≤ v ∧ v < 2147483648) : jMu (S := (Int → Int) × Int) l yX11_toy wsX11_toy rmX11_toy [.ref h0, .int (iI (w)), .int (iI (v))] D cI cZ z [(h0, .inr (11, [.int (iI (th)), .long (lI (tra)), .ref h40, .int (iI (tn)), .int (iI (nx)), .int (iI (tk)), .int (iI (pl)), .int (iI (va)), .int (iI (fl)), .ref h41, .ref h42, .ref h43, .ref h44, .ref h45, .ref h46, .ref h47, .ref h48, .ref h49, .ref h50, .ref h51, .int (iI (tc)), .ref h52, .int (iI (km)), .int (iI (bI dr)), .int (iI (ta)), .int (iI (le)), .int (iI (rm9)), .int (iI (rc9)), .int (iI (fa)), .int (iI (tr)), .int (iI (ro)), .int (iI (lo))])), (h41, .inl (cI, 18, .inl (aI td)))] (fun u => some (.int (iI (u.2)))) (fun u => if (w = 0 ∧ 1 ≤ v ∧ v ≤ 3) ∨ (w = 1 ∧ 1 ≤ v ∧ v ≤ 7) ∨ (w = 2 ∧ 0 ≤ v ∧ v ≤ 9) then u.2 = td (2 + w) ∧ u.1 = upZ td (2 + w) v else u.2 = -1 ∧ u.1 = td) (fun u => [(h0, .inr (11, [.int (iI (0)), .long (lI (tra)), .ref h40, .int (iI (tn)), .int (iI (nx)), .int (iI (tk)), .int (iI (pl)), .int (iI (va)), .int (iI (fl)), .ref h41, .ref h42, .ref h43, .ref h44, .ref h45, .ref h46, .ref h47, .ref h48, .ref h49, .ref h50, .ref h51, .int (iI (tc)), .ref h52, .int (iI (km)), .int (iI (bI dr)), .int (iI (ta)), .int (iI (le)), .int (iI (rm9)), .int (iI (rc9)), .int (iI (fa)), .int (iI (tr)), .int (iI (ro)), .int (iI (lo))])), (h41, .inl (cI, 18, .inl (aI u.1)))]) := by
  refine jMu_of (cc := cX11_toy) (n := 4) (ret := (some .int)) (by decide) rfl (Nat.le_of_ble_eq_true rfl) ?_
  intro p e s m below meth c A ls args Q hQ F hA hZ hP hK hD hS hl
  obtain ⟨hx, hb, hr, hml, hown, hts, hlocks⟩ := F
  have hown : s.vm.findClass RX11 = some m.cls := hown
  have hl : lv_has ls 4 [(0, .ref h0), (1, .int (iI (w))), (2, .int (iI (v)))] := hl
  have L56 := hts (.fieldLink RX11 56 "TinMouseModel" "thrown" "I") (by decide +kernel)
  have L13 := hts (.fieldLink RX11 13 "TinMouseModel" "told" "[I") (by decide +kernel)
  have UX11 : ∀ w ∈ wsX110, w ∈ wsX11_toy := fun w h => List.mem_cons_of_mem _ (List.mem_append_right _ h)
  refine lv_aload_n hx hb dX11_toy_0 rfl (lv_at hl 0 rfl) ?_
  refine lv_iconst (v := iI (0)) hx hb dX11_toy_1 rfl ?_
  refine va_put (D := D) (ci := 11) (v := .int (iI (0))) (ty := .int) (C := RX11) (T := TX11) (N := 32) hx hb hts UX11 tyX11 tyX11_ok nmX11 hown hK hP hD hS 0 rfl rfl 0 (by decide) L56 (fun _ h9 => h9) rfl rfl rfl rfl (Nat.le_of_ble_eq_true rfl) dX11_toy_2 (fun H locs hP hD hS => ?_)
  have hP : va_P D vwCl [(h0, .inr (11, [.int (iI (0)), .long (lI (tra)), .ref h40, .int (iI (tn)), .int (iI (nx)), .int (iI (tk)), .int (iI (pl)), .int (iI (va)), .int (iI (fl)), .ref h41, .ref h42, .ref h43, .ref h44, .ref h45, .ref h46, .ref h47, .ref h48, .ref h49, .ref h50, .ref h51, .int (iI (tc)), .ref h52, .int (iI (km)), .int (iI (bI dr)), .int (iI (ta)), .int (iI (le)), .int (iI (rm9)), .int (iI (rc9)), .int (iI (fa)), .int (iI (tr)), .int (iI (ro)), .int (iI (lo))])), (h41, .inl (cI, 18, .inl (aI td)))] H := hP
  have hD : va_D A [(h0, .inr (11, [.int (iI (0)), .long (lI (tra)), .ref h40, .int (iI (tn)), .int (iI (nx)), .int (iI (tk)), .int (iI (pl)), .int (iI (va)), .int (iI (fl)), .ref h41, .ref h42, .ref h43, .ref h44, .ref h45, .ref h46, .ref h47, .ref h48, .ref h49, .ref h50, .ref h51, .int (iI (tc)), .ref h52, .int (iI (km)), .int (iI (bI dr)), .int (iI (ta)), .int (iI (le)), .int (iI (rm9)), .int (iI (rc9)), .int (iI (fa)), .int (iI (tr)), .int (iI (ro)), .int (iI (lo))])), (h41, .inl (cI, 18, .inl (aI td)))] := hD
  refine lv_iload_n hx hb dX11_toy_5 rfl (lv_at hl 1 rfl) ?_
  refine lv_iconst (v := iI (0)) hx hb dX11_toy_6 rfl ?_
  refine lv_iconst (v := iI (2)) hx hb dX11_toy_7 rfl ?_
  refine j_rd (va_runS (As := [.int (iI (w)), .int (iI (0)), .int (iI (2))]) (rest := []) ⟨hx, hb, hml, hown, hts⟩ (c_X11_in l D cI cZ z w 0 2 (by first | assumption | omega) (by first | assumption | omega) (by first | assumption | omega) H.size) (va_cwS 3 hts gX11_toy_X11_in rfl rfl rfl hsX11_in ⟨Nat.le_of_ble_eq_true rfl, Nat.le_of_ble_eq_true rfl⟩) (j_preS hP hD hK hS hZ hA [] rfl rfl) rfl rfl hl.1 rfl (lv_room (Nat.le_of_ble_eq_true rfl)) dX11_toy_8 ⟨Nat.zero_le _, Nat.zero_le _⟩) ?_
  refine j_ifeq_d (tgt := 51) hx hb dX11_toy_11 (by decide) (fun c_11 => ?_) (fun c_11 => ?_)
  · refine lv_iconst (v := iI (-1)) hx hb dX11_toy_51 rfl ?_
    rw [hQ]; exact jm_iret (td, -1) hx hb hr hlocks hS hP rfl (by (try dsimp only); first | (rw [if_pos (by omega)]; exact ⟨rfl, rfl⟩) | (rw [if_neg (by omega)]; exact ⟨rfl, rfl⟩)) dX11_toy_52
  · refine lv_iload_n hx hb dX11_toy_14 rfl (lv_at hl 2 rfl) ?_
    refine lv_iload_n hx hb dX11_toy_15 rfl (lv_at hl 1 rfl) ?_
    refine lv_iconst (v := iI (2)) hx hb dX11_toy_16 rfl ?_
    obtain ⟨t_1, et_1⟩ : ∃ t : Int, t = if ¬ w = 2 then 1 else 0 := ⟨_, rfl⟩
    have kt_1 : W p l e rmX11_toy s m args below meth c H locs 0 0 Q (F0 m 25 ls [.int (iI (t_1)), .int (iI (v))]) := by
      refine lv_iload_n hx hb dX11_toy_25 rfl (lv_at hl 1 rfl) ?_
      obtain ⟨t_2, et_2⟩ : ∃ t : Int, t = if ¬ w = 0 then (if ¬ w = 1 then 9 else 7) else 3 := ⟨_, rfl⟩
      have kt_2 : W p l e rmX11_toy s m args below meth c H locs 0 0 Q (F0 m 45 ls [.int (iI (t_2)), .int (iI (t_1)), .int (iI (v))]) := by
        refine j_rd (va_runS (As := [.int (iI (v)), .int (iI (t_1)), .int (iI (t_2))]) (rest := []) ⟨hx, hb, hml, hown, hts⟩ (c_X11_in l D cI cZ z v t_1 t_2 (by first | assumption | omega) (by first | assumption | omega) (by first | assumption | omega) H.size) (va_cwS 3 hts gX11_toy_X11_in rfl rfl rfl hsX11_in ⟨Nat.le_of_ble_eq_true rfl, Nat.le_of_ble_eq_true rfl⟩) (j_preS hP hD hK hS hZ hA [] rfl rfl) rfl rfl hl.1 rfl (lv_room (Nat.le_of_ble_eq_true rfl)) dX11_toy_45 ⟨Nat.zero_le _, Nat.zero_le _⟩) ?_
        refine j_ifne_d (tgt := 53) hx hb dX11_toy_48 (by decide) (fun c_48 => ?_) (fun c_48 => ?_)
        · refine lv_aload_n hx hb dX11_toy_53 rfl (lv_at hl 0 rfl) ?_
          refine va_get (D := D) (ci := 11) (v := .ref h41) (C := RX11) (T := TX11) (N := 32) hx hb hts UX11 hown hK hP 0 rfl rfl 9 (by decide) L13 (fun _ h9 => h9) rfl dX11_toy_54 ?_
          refine lv_iconst (v := iI (2)) hx hb dX11_toy_57 rfl ?_
          refine lv_iload_n hx hb dX11_toy_58 rfl (lv_at hl 1 rfl) ?_
          refine j_iadd hx hb dX11_toy_59 ?_
          refine j_iald hx hb hK hP 1 0 rfl rfl (by omega) dX11_toy_60 ?_
          refine lv_istore_n (lv' := [(3, .int (iI (td (2 + w)))), (0, .ref h0), (1, .int (iI (w))), (2, .int (iI (v)))]) hx hb dX11_toy_61 rfl hl (by decide) rfl (fun ls hl => ?_)
          refine lv_aload_n hx hb dX11_toy_62 rfl (lv_at hl 1 rfl) ?_
          refine va_get (D := D) (ci := 11) (v := .ref h41) (C := RX11) (T := TX11) (N := 32) hx hb hts UX11 hown hK hP 0 rfl rfl 9 (by decide) L13 (fun _ h9 => h9) rfl dX11_toy_63 ?_
          refine lv_iconst (v := iI (2)) hx hb dX11_toy_66 rfl ?_
          refine lv_iload_n hx hb dX11_toy_67 rfl (lv_at hl 2 rfl) ?_
          refine j_iadd hx hb dX11_toy_68 ?_
          refine lv_iload_n hx hb dX11_toy_69 rfl (lv_at hl 3 rfl) ?_
          refine j_iast hx hb hK hP hD hS 1 0 rfl rfl (by omega) dX11_toy_70 (fun H locs hP hD hS => ?_)
          have hP : va_P D vwCl [(h0, .inr (11, [.int (iI (0)), .long (lI (tra)), .ref h40, .int (iI (tn)), .int (iI (nx)), .int (iI (tk)), .int (iI (pl)), .int (iI (va)), .int (iI (fl)), .ref h41, .ref h42, .ref h43, .ref h44, .ref h45, .ref h46, .ref h47, .ref h48, .ref h49, .ref h50, .ref h51, .int (iI (tc)), .ref h52, .int (iI (km)), .int (iI (bI dr)), .int (iI (ta)), .int (iI (le)), .int (iI (rm9)), .int (iI (rc9)), .int (iI (fa)), .int (iI (tr)), .int (iI (ro)), .int (iI (lo))])), (h41, .inl (cI, 18, .inl (aI (upZ td (2 + w) v))))] H := hP
          have hD : va_D A [(h0, .inr (11, [.int (iI (0)), .long (lI (tra)), .ref h40, .int (iI (tn)), .int (iI (nx)), .int (iI (tk)), .int (iI (pl)), .int (iI (va)), .int (iI (fl)), .ref h41, .ref h42, .ref h43, .ref h44, .ref h45, .ref h46, .ref h47, .ref h48, .ref h49, .ref h50, .ref h51, .int (iI (tc)), .ref h52, .int (iI (km)), .int (iI (bI dr)), .int (iI (ta)), .int (iI (le)), .int (iI (rm9)), .int (iI (rc9)), .int (iI (fa)), .int (iI (tr)), .int (iI (ro)), .int (iI (lo))])), (h41, .inl (cI, 18, .inl (aI (upZ td (2 + w) v))))] := hD
          refine lv_iload_n hx hb dX11_toy_71 rfl (lv_at hl 0 rfl) ?_
          rw [hQ]; exact jm_iret (upZ td (2 + w) v, td (2 + w)) hx hb hr hlocks hS hP rfl (by (try dsimp only); first | (rw [if_pos (by omega)]; exact ⟨rfl, rfl⟩) | (rw [if_neg (by omega)]; exact ⟨rfl, rfl⟩)) dX11_toy_72
        · refine lv_iconst (v := iI (-1)) hx hb dX11_toy_51 rfl ?_
          rw [hQ]; exact jm_iret (td, -1) hx hb hr hlocks hS hP rfl (by (try dsimp only); first | (rw [if_pos (by omega)]; exact ⟨rfl, rfl⟩) | (rw [if_neg (by omega)]; exact ⟨rfl, rfl⟩)) dX11_toy_52
      refine j_if_ne (tgt := 33) hx hb (by omega) dX11_toy_26 (by decide) (fun q_3 => ?_) (fun q_3 => ?_)
      · refine lv_iload_n hx hb dX11_toy_33 rfl (lv_at hl 1 rfl) ?_
        refine lv_iconst (v := iI (1)) hx hb dX11_toy_34 rfl ?_
        refine j_icmp_ne (tgt := 43) hx hb (by omega) dX11_toy_35 (by decide) (fun q_4 => ?_) (fun q_4 => ?_)
        · refine lv_bipush (v := iI (9)) hx hb dX11_toy_43 (by decide) ?_
          (have q9 := kt_2; rw [et_2, if_pos q_3, if_pos q_4] at q9; exact q9)
        · refine lv_bipush (v := iI (7)) hx hb dX11_toy_38 (by decide) ?_
          refine lv_goto (tgt := 45) hx hb dX11_toy_40 (by decide) ?_
          (have q9 := kt_2; rw [et_2, if_pos q_3, if_neg (fun q => q q_4)] at q9; exact q9)
      · refine lv_iconst (v := iI (3)) hx hb dX11_toy_29 rfl ?_
        refine lv_goto (tgt := 45) hx hb dX11_toy_30 (by decide) ?_
        (have q9 := kt_2; rw [et_2, if_neg (fun q => q q_3)] at q9; exact q9)
    refine j_icmp_ne (tgt := 24) hx hb (by omega) dX11_toy_17 (by decide) (fun q_5 => ?_) (fun q_5 => ?_)
    · refine lv_iconst (v := iI (1)) hx hb dX11_toy_24 rfl ?_
      (have q9 := kt_1; rw [et_1, if_pos q_5] at q9; exact q9)
    · refine lv_iconst (v := iI (0)) hx hb dX11_toy_20 rfl ?_
      refine lv_goto (tgt := 25) hx hb dX11_toy_21 (by decide) ?_
      (have q9 := kt_1; rw [et_1, if_neg (fun q => q q_5)] at q9; exact q9)
abbrev rmX11_type : Room := { frames := 1, cells := 0, slots := 0, locals := 22 }
set_option maxHeartbeats 4000000 in
set_option maxRecDepth 100000 in
theorem c_X11_type (l : Launch) (D : va_G) (cI cZ : ClassId) (z : jZT) (h0 h40 h41 h42 h43 h44 h45 h46 h47 h48 h49 h50 h51 h52 : Nat) (v n th tra tn nx tk pl va fl tc km ta le rm9 rc9 fa tr ro lo : Int) (tx : Int → Int) (dr : Bool) (hTx : TxtI tx tn) (hn : -2147483648 ≤ n ∧ n < 2147483648) : jMu (S := (Int → Int) × Int × Int) l yX11_type wsX11_type rmX11_type [.ref h0, .long (lI (v)), .int (iI (n))] D cI cZ z [(h0, .inr (11, [.int (iI (th)), .long (lI (tra)), .ref h40, .int (iI (tn)), .int (iI (nx)), .int (iI (tk)), .int (iI (pl)), .int (iI (va)), .int (iI (fl)), .ref h41, .ref h42, .ref h43, .ref h44, .ref h45, .ref h46, .ref h47, .ref h48, .ref h49, .ref h50, .ref h51, .int (iI (tc)), .ref h52, .int (iI (km)), .int (iI (bI dr)), .int (iI (ta)), .int (iI (le)), .int (iI (rm9)), .int (iI (rc9)), .int (iI (fa)), .int (iI (tr)), .int (iI (ro)), .int (iI (lo))])), (h40, .inl (cI, 300, .inl (aI tx)))] (fun u => some (.int (iI (u.2.2)))) (fun u => if n < 1 ∨ 8 < n then u.2.2 = -1 ∧ u.2.1 = tn ∧ u.1 = tx else if 300 < tn + n then u.2.2 = -3 ∧ u.2.1 = tn ∧ u.1 = tx else u.2.2 = tn + n ∧ u.2.1 = tn + n ∧ u.1 = tyB v tx tn n.toNat n.toNat) (fun u => [(h0, .inr (11, [.int (iI (0)), .long (lI (tra)), .ref h40, .int (iI (u.2.1)), .int (iI (nx)), .int (iI (tk)), .int (iI (pl)), .int (iI (va)), .int (iI (fl)), .ref h41, .ref h42, .ref h43, .ref h44, .ref h45, .ref h46, .ref h47, .ref h48, .ref h49, .ref h50, .ref h51, .int (iI (tc)), .ref h52, .int (iI (km)), .int (iI (bI dr)), .int (iI (ta)), .int (iI (le)), .int (iI (rm9)), .int (iI (rc9)), .int (iI (fa)), .int (iI (tr)), .int (iI (ro)), .int (iI (lo))])), (h40, .inl (cI, 300, .inl (aI u.1)))]) := by
  refine jMu_of (cc := cX11_type) (n := 5) (ret := (some .int)) (by decide) rfl (Nat.le_of_ble_eq_true rfl) ?_
  intro p e s m below meth c A ls args Q hQ F hA hZ hP hK hD hS hl
  obtain ⟨hx, hb, hr, hml, hown, hts, hlocks⟩ := F
  have hown : s.vm.findClass RX11 = some m.cls := hown
  have hl : lv_has ls 5 [(0, .ref h0), (1, .long (lI (v))), (3, .int (iI (n)))] := hl
  have L56 := hts (.fieldLink RX11 56 "TinMouseModel" "thrown" "I") (by decide +kernel)
  have L64 := hts (.fieldLink RX11 64 "TinMouseModel" "typed" "I") (by decide +kernel)
  have L7 := hts (.fieldLink RX11 7 "TinMouseModel" "text" "[I") (by decide +kernel)
  have C67 := hts (.constantLong RX11 67 (255)) (by decide +kernel)
  have UX11 : ∀ w ∈ wsX110, w ∈ wsX11_type := fun w h => List.mem_cons_of_mem _ (List.mem_append_right _ h)
  have htn := hTx.1
  refine lv_aload_n hx hb dX11_type_0 rfl (lv_at hl 0 rfl) ?_
  refine lv_iconst (v := iI (0)) hx hb dX11_type_1 rfl ?_
  refine va_put (D := D) (ci := 11) (v := .int (iI (0))) (ty := .int) (C := RX11) (T := TX11) (N := 32) hx hb hts UX11 tyX11 tyX11_ok nmX11 hown hK hP hD hS 0 rfl rfl 0 (by decide) L56 (fun _ h9 => h9) rfl rfl rfl rfl (Nat.le_of_ble_eq_true rfl) dX11_type_2 (fun H locs hP hD hS => ?_)
  have hP : va_P D vwCl [(h0, .inr (11, [.int (iI (0)), .long (lI (tra)), .ref h40, .int (iI (tn)), .int (iI (nx)), .int (iI (tk)), .int (iI (pl)), .int (iI (va)), .int (iI (fl)), .ref h41, .ref h42, .ref h43, .ref h44, .ref h45, .ref h46, .ref h47, .ref h48, .ref h49, .ref h50, .ref h51, .int (iI (tc)), .ref h52, .int (iI (km)), .int (iI (bI dr)), .int (iI (ta)), .int (iI (le)), .int (iI (rm9)), .int (iI (rc9)), .int (iI (fa)), .int (iI (tr)), .int (iI (ro)), .int (iI (lo))])), (h40, .inl (cI, 300, .inl (aI tx)))] H := hP
  have hD : va_D A [(h0, .inr (11, [.int (iI (0)), .long (lI (tra)), .ref h40, .int (iI (tn)), .int (iI (nx)), .int (iI (tk)), .int (iI (pl)), .int (iI (va)), .int (iI (fl)), .ref h41, .ref h42, .ref h43, .ref h44, .ref h45, .ref h46, .ref h47, .ref h48, .ref h49, .ref h50, .ref h51, .int (iI (tc)), .ref h52, .int (iI (km)), .int (iI (bI dr)), .int (iI (ta)), .int (iI (le)), .int (iI (rm9)), .int (iI (rc9)), .int (iI (fa)), .int (iI (tr)), .int (iI (ro)), .int (iI (lo))])), (h40, .inl (cI, 300, .inl (aI tx)))] := hD
  refine lv_iload_n hx hb dX11_type_5 rfl (lv_at hl 2 rfl) ?_
  refine lv_iconst (v := iI (1)) hx hb dX11_type_6 rfl ?_
  refine lv_bipush (v := iI (8)) hx hb dX11_type_7 (by decide) ?_
  refine j_rd (va_runS (As := [.int (iI (n)), .int (iI (1)), .int (iI (8))]) (rest := []) ⟨hx, hb, hml, hown, hts⟩ (c_X11_in l D cI cZ z n 1 8 (by first | assumption | omega) (by first | assumption | omega) (by first | assumption | omega) H.size) (va_cwS 3 hts gX11_type_X11_in rfl rfl rfl hsX11_in ⟨Nat.le_of_ble_eq_true rfl, Nat.le_of_ble_eq_true rfl⟩) (j_preS hP hD hK hS hZ hA [] rfl rfl) rfl rfl hl.1 rfl (lv_room (Nat.le_of_ble_eq_true rfl)) dX11_type_9 ⟨Nat.zero_le _, Nat.zero_le _⟩) ?_
  refine j_ifne_d (tgt := 17) hx hb dX11_type_12 (by decide) (fun c_12 => ?_) (fun c_12 => ?_)
  · refine lv_aload_n hx hb dX11_type_17 rfl (lv_at hl 0 rfl) ?_
    refine va_get (D := D) (ci := 11) (v := .int (iI (tn))) (C := RX11) (T := TX11) (N := 32) hx hb hts UX11 hown hK hP 0 rfl rfl 3 (by decide) L64 (fun _ h9 => h9) rfl dX11_type_18 ?_
    refine lv_iload_n hx hb dX11_type_21 rfl (lv_at hl 2 rfl) ?_
    refine j_iadd hx hb dX11_type_22 ?_
    refine lv_sipush (v := iI (300)) hx hb dX11_type_23 (by decide) ?_
    refine j_icmp_le (tgt := 32) hx hb (by omega) dX11_type_26 (by decide) (fun c_26 => ?_) (fun c_26 => ?_)
    · refine lv_iload_n hx hb dX11_type_32 rfl (lv_at hl 2 rfl) ?_
      refine lv_iconst (v := iI (1)) hx hb dX11_type_33 rfl ?_
      refine j_isub hx hb dX11_type_34 ?_
      refine lv_istore (lv' := [(4, .int (iI (n - 1))), (0, .ref h0), (1, .long (lI (v))), (3, .int (iI (n)))]) hx hb dX11_type_35 hl (by decide) rfl (fun ls hl => ?_)
      have loop_37 : ∀ (fuel_37 : Nat) (i : Int) (tx9 : Int → Int) (tn9 : Int) (k : Nat), ((i = n - 1 - (k : Int) ∧ -1 ≤ i) ∧ tn9 = tn + (k : Int) ∧ tx9 = tyB v tx tn n.toNat k) → (i + 1).toNat < fuel_37 → ∀ (H : Heap) (locs : List Loc), va_P D vwCl [(h0, .inr (11, [.int (iI (0)), .long (lI (tra)), .ref h40, .int (iI (tn9)), .int (iI (nx)), .int (iI (tk)), .int (iI (pl)), .int (iI (va)), .int (iI (fl)), .ref h41, .ref h42, .ref h43, .ref h44, .ref h45, .ref h46, .ref h47, .ref h48, .ref h49, .ref h50, .ref h51, .int (iI (tc)), .ref h52, .int (iI (km)), .int (iI (bI dr)), .int (iI (ta)), .int (iI (le)), .int (iI (rm9)), .int (iI (rc9)), .int (iI (fa)), .int (iI (tr)), .int (iI (ro)), .int (iI (lo))])), (h40, .inl (cI, 300, .inl (aI tx9)))] H → va_D A [(h0, .inr (11, [.int (iI (0)), .long (lI (tra)), .ref h40, .int (iI (tn9)), .int (iI (nx)), .int (iI (tk)), .int (iI (pl)), .int (iI (va)), .int (iI (fl)), .ref h41, .ref h42, .ref h43, .ref h44, .ref h45, .ref h46, .ref h47, .ref h48, .ref h49, .ref h50, .ref h51, .int (iI (tc)), .ref h52, .int (iI (km)), .int (iI (bI dr)), .int (iI (ta)), .int (iI (le)), .int (iI (rm9)), .int (iI (rc9)), .int (iI (fa)), .int (iI (tr)), .int (iI (ro)), .int (iI (lo))])), (h40, .inl (cI, 300, .inl (aI tx9)))] → va_S A s.heap H locs → ∀ ls : Array Slot, lv_has ls 5 [(0, .ref h0), (1, .long (lI (v))), (4, .int (iI (i)))] → W p l e rmX11_type s m args below meth c H locs 0 0 Q (F0 m 37 ls []) := by
        intro fuel_37
        induction fuel_37 with
        | zero => intro i tx9 tn9 k hI9 hm9; exact absurd hm9 (Nat.not_lt_zero _)
        | succ fuel_37 ih_37 =>
          intro i tx9 tn9 k hI_37 hm_37 H locs hP hD hS ls hl
          obtain ⟨hi1, hi2, hi3⟩ := hI_37
          refine lv_iload hx hb dX11_type_37 (lv_at hl 2 rfl) ?_
          refine j_if_lt (tgt := 79) hx hb (by omega) dX11_type_39 (by decide) (fun c_39 => ?_) (fun c_39 => ?_)
          · refine lv_aload_n hx hb dX11_type_79 rfl (lv_at hl 0 rfl) ?_
            refine va_get (D := D) (ci := 11) (v := .int (iI (tn9))) (C := RX11) (T := TX11) (N := 32) hx hb hts UX11 hown hK hP 0 rfl rfl 3 (by decide) L64 (fun _ h9 => h9) rfl dX11_type_80 ?_
            rw [hQ]; exact jm_iret (tx9, tn9, tn9) hx hb hr hlocks hS hP rfl (by (try dsimp only); first | (rw [if_pos (by omega)]; exact ⟨rfl, rfl, rfl⟩) | (rw [if_neg (by omega), if_pos (by omega)]; exact ⟨rfl, rfl, rfl⟩) | (rw [if_neg (by omega), if_neg (by omega)]; exact ⟨by omega, by omega, by rw [hi3, show k = n.toNat by omega]⟩)) dX11_type_83
          · refine lv_aload_n hx hb dX11_type_42 rfl (lv_at hl 0 rfl) ?_
            refine va_get (D := D) (ci := 11) (v := .ref h40) (C := RX11) (T := TX11) (N := 32) hx hb hts UX11 hown hK hP 0 rfl rfl 2 (by decide) L7 (fun _ h9 => h9) rfl dX11_type_43 ?_
            refine lv_aload_n hx hb dX11_type_46 rfl (lv_at hl 0 rfl) ?_
            refine va_get (D := D) (ci := 11) (v := .int (iI (tn9))) (C := RX11) (T := TX11) (N := 32) hx hb hts UX11 hown hK hP 0 rfl rfl 3 (by decide) L64 (fun _ h9 => h9) rfl dX11_type_47 ?_
            refine lv_lload_n hx hb dX11_type_50 rfl (lv_at hl 1 rfl) ?_
            refine lv_bipush (v := iI (8)) hx hb dX11_type_51 (by decide) ?_
            refine lv_iload hx hb dX11_type_53 (lv_at hl 2 rfl) ?_
            refine j_imul hx hb dX11_type_55 ?_
            refine lv_lshr hx hb dX11_type_56 rfl ?_
            refine lv_ldc2 (v := lI (255)) hx hb hown C67 dX11_type_57 ?_
            refine lv_land hx hb dX11_type_60 ?_
            rw [lshr255 (v := v) (i := i) (n := i.toNat) (by omega) (by omega)]
            refine j_l2i hx hb dX11_type_61 ?_
            refine j_iast hx hb hK hP hD hS 1 0 rfl rfl (by omega) dX11_type_62 (fun H locs hP hD hS => ?_)
            have hP : va_P D vwCl [(h0, .inr (11, [.int (iI (0)), .long (lI (tra)), .ref h40, .int (iI (tn9)), .int (iI (nx)), .int (iI (tk)), .int (iI (pl)), .int (iI (va)), .int (iI (fl)), .ref h41, .ref h42, .ref h43, .ref h44, .ref h45, .ref h46, .ref h47, .ref h48, .ref h49, .ref h50, .ref h51, .int (iI (tc)), .ref h52, .int (iI (km)), .int (iI (bI dr)), .int (iI (ta)), .int (iI (le)), .int (iI (rm9)), .int (iI (rc9)), .int (iI (fa)), .int (iI (tr)), .int (iI (ro)), .int (iI (lo))])), (h40, .inl (cI, 300, .inl (aI (upZ tx9 tn9 (byF v i.toNat)))))] H := hP
            have hD : va_D A [(h0, .inr (11, [.int (iI (0)), .long (lI (tra)), .ref h40, .int (iI (tn9)), .int (iI (nx)), .int (iI (tk)), .int (iI (pl)), .int (iI (va)), .int (iI (fl)), .ref h41, .ref h42, .ref h43, .ref h44, .ref h45, .ref h46, .ref h47, .ref h48, .ref h49, .ref h50, .ref h51, .int (iI (tc)), .ref h52, .int (iI (km)), .int (iI (bI dr)), .int (iI (ta)), .int (iI (le)), .int (iI (rm9)), .int (iI (rc9)), .int (iI (fa)), .int (iI (tr)), .int (iI (ro)), .int (iI (lo))])), (h40, .inl (cI, 300, .inl (aI (upZ tx9 tn9 (byF v i.toNat)))))] := hD
            refine lv_aload_n hx hb dX11_type_63 rfl (lv_at hl 0 rfl) ?_
            refine lv_dup hx hb dX11_type_64 rfl ?_
            refine va_get (D := D) (ci := 11) (v := .int (iI (tn9))) (C := RX11) (T := TX11) (N := 32) hx hb hts UX11 hown hK hP 0 rfl rfl 3 (by decide) L64 (fun _ h9 => h9) rfl dX11_type_65 ?_
            refine lv_iconst (v := iI (1)) hx hb dX11_type_68 rfl ?_
            refine j_iadd hx hb dX11_type_69 ?_
            refine va_put (D := D) (ci := 11) (v := .int (iI (tn9 + 1))) (ty := .int) (C := RX11) (T := TX11) (N := 32) hx hb hts UX11 tyX11 tyX11_ok nmX11 hown hK hP hD hS 0 rfl rfl 3 (by decide) L64 (fun _ h9 => h9) rfl rfl rfl rfl (Nat.le_of_ble_eq_true rfl) dX11_type_70 (fun H locs hP hD hS => ?_)
            have hP : va_P D vwCl [(h0, .inr (11, [.int (iI (0)), .long (lI (tra)), .ref h40, .int (iI (tn9 + 1)), .int (iI (nx)), .int (iI (tk)), .int (iI (pl)), .int (iI (va)), .int (iI (fl)), .ref h41, .ref h42, .ref h43, .ref h44, .ref h45, .ref h46, .ref h47, .ref h48, .ref h49, .ref h50, .ref h51, .int (iI (tc)), .ref h52, .int (iI (km)), .int (iI (bI dr)), .int (iI (ta)), .int (iI (le)), .int (iI (rm9)), .int (iI (rc9)), .int (iI (fa)), .int (iI (tr)), .int (iI (ro)), .int (iI (lo))])), (h40, .inl (cI, 300, .inl (aI (upZ tx9 tn9 (byF v i.toNat)))))] H := hP
            have hD : va_D A [(h0, .inr (11, [.int (iI (0)), .long (lI (tra)), .ref h40, .int (iI (tn9 + 1)), .int (iI (nx)), .int (iI (tk)), .int (iI (pl)), .int (iI (va)), .int (iI (fl)), .ref h41, .ref h42, .ref h43, .ref h44, .ref h45, .ref h46, .ref h47, .ref h48, .ref h49, .ref h50, .ref h51, .int (iI (tc)), .ref h52, .int (iI (km)), .int (iI (bI dr)), .int (iI (ta)), .int (iI (le)), .int (iI (rm9)), .int (iI (rc9)), .int (iI (fa)), .int (iI (tr)), .int (iI (ro)), .int (iI (lo))])), (h40, .inl (cI, 300, .inl (aI (upZ tx9 tn9 (byF v i.toNat)))))] := hD
            refine lv_iinc (v := iI (i + (-1))) (lv' := [(4, .int (iI (i + (-1)))), (0, .ref h0), (1, .long (lI (v)))]) hx hb dX11_type_73 hl (k := 2) rfl (iI_add _ _) (by decide) rfl (fun ls hl => ?_)
            refine lv_goto (tgt := 37) hx hb dX11_type_76 (by decide) ?_
            exact ih_37 ((i + (-1))) ((upZ tx9 tn9 (byF v i.toNat))) ((tn9 + 1)) (k + 1) (by exact ⟨by omega, by omega, by rw [tyB, ← hi3, hi2, show n.toNat - 1 - k = i.toNat by omega]⟩) (by omega) H locs hP hD hS ls (lv_sub hl [1, 2, 0] rfl)
      exact loop_37 _ (n - 1) tx tn 0 (by exact ⟨by omega, by omega, rfl⟩) (Nat.lt_succ_self _) H locs hP hD hS ls (lv_sub hl [1, 2, 0] rfl)
    · refine lv_bipush (v := iI (-3)) hx hb dX11_type_29 (by decide) ?_
      rw [hQ]; exact jm_iret (tx, tn, -3) hx hb hr hlocks hS hP rfl (by (try dsimp only); first | (rw [if_pos (by omega)]; exact ⟨rfl, rfl, rfl⟩) | (rw [if_neg (by omega), if_pos (by omega)]; exact ⟨rfl, rfl, rfl⟩) | (rw [if_neg (by omega), if_neg (by omega)]; exact ⟨by omega, by omega, by rw [hi3, show k = n.toNat by omega]⟩)) dX11_type_31
  · refine lv_iconst (v := iI (-1)) hx hb dX11_type_15 rfl ?_
    rw [hQ]; exact jm_iret (tx, tn, -1) hx hb hr hlocks hS hP rfl (by (try dsimp only); first | (rw [if_pos (by omega)]; exact ⟨rfl, rfl, rfl⟩) | (rw [if_neg (by omega), if_pos (by omega)]; exact ⟨rfl, rfl, rfl⟩) | (rw [if_neg (by omega), if_neg (by omega)]; exact ⟨by omega, by omega, by rw [hi3, show k = n.toNat by omega]⟩)) dX11_type_16
