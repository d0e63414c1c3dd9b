abbrev rmX11_now : Room := { frames := 4, cells := 0, slots := 0, locals := 87 }
set_option maxHeartbeats 4000000 in
set_option maxRecDepth 100000 in
theorem c_X11_now (l : Launch) (D : va_G) (cI cZ : ClassId) (z : jZT) (h0 h40 h41 h42 h43 h44 h45 h46 h47 h48 h49 h50 h51 h52 : Nat) (w th tra tn nx tk pl va fl tc km ta le rm9 rc9 fa tr ro lo : Int) (td gd sa : Int → Int) (dr : Bool) (hW : 3 ≤ td 0 ∧ td 0 ≤ 16) (hH : 3 ≤ td 1 ∧ td 1 ≤ 16) (hg : ∀ j : Int, 0 ≤ j → j < 256 → 0 ≤ gd j ∧ gd j ≤ 2) (hsr : (-40 ≤ sa 0 ∧ sa 0 < 40) ∧ (-40 ≤ sa 1 ∧ sa 1 < 40) ∧ (0 ≤ sa 4 ∧ sa 4 < 1000)) (hw : -2147483648 ≤ w ∧ w < 2147483648) : jMu (S := Int) l yX11_now wsX11_now rmX11_now [.ref h0, .int (iI (w))] D cI cZ z [(h0, .inr (11, [.int (iI (th)), .long (lI (tra)), .ref h40, .int (iI (tn)), .int (iI (nx)), .int (iI (tk)), .int (iI (pl)), .int (iI (va)), .int (iI (fl)), .ref h41, .ref h42, .ref h43, .ref h44, .ref h45, .ref h46, .ref h47, .ref h48, .ref h49, .ref h50, .ref h51, .int (iI (tc)), .ref h52, .int (iI (km)), .int (iI (bI dr)), .int (iI (ta)), .int (iI (le)), .int (iI (rm9)), .int (iI (rc9)), .int (iI (fa)), .int (iI (tr)), .int (iI (ro)), .int (iI (lo))])), (h41, .inl (cI, 18, .inl (aI td))), (h42, .inl (cI, 512, .inl (aI gd))), (h43, .inl (cI, 12, .inl (aI sa)))] (fun u => some (.int (iI (u)))) (fun u => (w < 0 ∨ 9 < w → u = -1) ∧ (w = 0 → u = if mA (td 0) (td 1) gd (sa 0) (sa 1) = -5 then -9 else td 0 * sa 1 + sa 0) ∧ (1 ≤ w ∧ w ≤ 3 → u = sa (w + 1)) ∧ (w = 4 → u = (mSt (td 0) (td 1) gd (sa 0) (sa 1) (sa 4))) ∧ (5 ≤ w ∧ w ≤ 9 → u = sa w)) (fun u => [(h0, .inr (11, [.int (iI (0)), .long (lI (tra)), .ref h40, .int (iI (tn)), .int (iI (nx)), .int (iI (tk)), .int (iI (pl)), .int (iI (va)), .int (iI (fl)), .ref h41, .ref h42, .ref h43, .ref h44, .ref h45, .ref h46, .ref h47, .ref h48, .ref h49, .ref h50, .ref h51, .int (iI (tc)), .ref h52, .int (iI (km)), .int (iI (bI dr)), .int (iI (ta)), .int (iI (le)), .int (iI (rm9)), .int (iI (rc9)), .int (iI (fa)), .int (iI (tr)), .int (iI (ro)), .int (iI (lo))])), (h41, .inl (cI, 18, .inl (aI td))), (h42, .inl (cI, 512, .inl (aI gd))), (h43, .inl (cI, 12, .inl (aI sa)))]) := by
  refine jMu_of (cc := cX11_now) (n := 2) (ret := (some .int)) (by decide) rfl (Nat.le_of_ble_eq_true rfl) ?_
  intro p e s m below meth c A ls args Q hQ F hA hZ hP hK hD hS hl
  obtain ⟨hx, hb, hr, hml, hown, hts, hlocks⟩ := F
  have hown : s.vm.findClass RX11 = some m.cls := hown
  have hl : lv_has ls 2 [(0, .ref h0), (1, .int (iI (w)))] := hl
  have L56 := hts (.fieldLink RX11 56 "TinMouseModel" "thrown" "I") (by decide +kernel)
  have L19 := hts (.fieldLink RX11 19 "TinMouseModel" "s" "[I") (by decide +kernel)
  have L13 := hts (.fieldLink RX11 13 "TinMouseModel" "told" "[I") (by decide +kernel)
  have UX11 : ∀ w ∈ wsX110, w ∈ wsX11_now := fun w h => List.mem_cons_of_mem _ (List.mem_append_right _ h)
  have har := mA_rng hW hH hg (sa 0) (sa 1)
  refine lv_aload_n hx hb dX11_now_0 rfl (lv_at hl 0 rfl) ?_
  refine lv_iconst (v := iI (0)) hx hb dX11_now_1 rfl ?_
  refine va_put (D := D) (ci := 11) (v := .int (iI (0))) (ty := .int) (C := RX11) (T := TX11) (N := 32) hx hb hts UX11 tyX11 tyX11_ok nmX11 hown hK hP hD hS 0 rfl rfl 0 (by decide) L56 (fun _ h9 => h9) rfl rfl rfl rfl (Nat.le_of_ble_eq_true rfl) dX11_now_2 (fun H locs hP hD hS => ?_)
  have hP : va_P D vwCl [(h0, .inr (11, [.int (iI (0)), .long (lI (tra)), .ref h40, .int (iI (tn)), .int (iI (nx)), .int (iI (tk)), .int (iI (pl)), .int (iI (va)), .int (iI (fl)), .ref h41, .ref h42, .ref h43, .ref h44, .ref h45, .ref h46, .ref h47, .ref h48, .ref h49, .ref h50, .ref h51, .int (iI (tc)), .ref h52, .int (iI (km)), .int (iI (bI dr)), .int (iI (ta)), .int (iI (le)), .int (iI (rm9)), .int (iI (rc9)), .int (iI (fa)), .int (iI (tr)), .int (iI (ro)), .int (iI (lo))])), (h41, .inl (cI, 18, .inl (aI td))), (h42, .inl (cI, 512, .inl (aI gd))), (h43, .inl (cI, 12, .inl (aI sa)))] H := hP
  have hD : va_D A [(h0, .inr (11, [.int (iI (0)), .long (lI (tra)), .ref h40, .int (iI (tn)), .int (iI (nx)), .int (iI (tk)), .int (iI (pl)), .int (iI (va)), .int (iI (fl)), .ref h41, .ref h42, .ref h43, .ref h44, .ref h45, .ref h46, .ref h47, .ref h48, .ref h49, .ref h50, .ref h51, .int (iI (tc)), .ref h52, .int (iI (km)), .int (iI (bI dr)), .int (iI (ta)), .int (iI (le)), .int (iI (rm9)), .int (iI (rc9)), .int (iI (fa)), .int (iI (tr)), .int (iI (ro)), .int (iI (lo))])), (h41, .inl (cI, 18, .inl (aI td))), (h42, .inl (cI, 512, .inl (aI gd))), (h43, .inl (cI, 12, .inl (aI sa)))] := hD
  refine lv_iload_n hx hb dX11_now_5 rfl (lv_at hl 1 rfl) ?_
  refine lv_iconst (v := iI (0)) hx hb dX11_now_6 rfl ?_
  refine lv_bipush (v := iI (9)) hx hb dX11_now_7 (by decide) ?_
  refine j_rd (va_runS (As := [.int (iI (w)), .int (iI (0)), .int (iI (9))]) (rest := []) ⟨hx, hb, hml, hown, hts⟩ (c_X11_in l D cI cZ z w 0 9 (by first | assumption | omega) (by first | assumption | omega) (by first | assumption | omega) H.size) (va_cwS 3 hts gX11_now_X11_in rfl rfl rfl hsX11_in ⟨Nat.le_of_ble_eq_true rfl, Nat.le_of_ble_eq_true rfl⟩) (j_preS hP hD hK hS hZ hA [] rfl rfl) rfl rfl hl.1 rfl (lv_room (Nat.le_of_ble_eq_true rfl)) dX11_now_9 ⟨Nat.zero_le _, Nat.zero_le _⟩) ?_
  refine j_ifne_d (tgt := 17) hx hb dX11_now_12 (by decide) (fun c_12 => ?_) (fun c_12 => ?_)
  · refine lv_iload_n hx hb dX11_now_17 rfl (lv_at hl 1 rfl) ?_
    refine j_if_ne (tgt := 68) hx hb (by omega) dX11_now_18 (by decide) (fun c_18 => ?_) (fun c_18 => ?_)
    · refine lv_iload_n hx hb dX11_now_68 rfl (lv_at hl 1 rfl) ?_
      refine lv_iconst (v := iI (1)) hx hb dX11_now_69 rfl ?_
      refine j_icmp_ne (tgt := 82) hx hb (by omega) dX11_now_70 (by decide) (fun c_70 => ?_) (fun c_70 => ?_)
      · refine lv_iload_n hx hb dX11_now_82 rfl (lv_at hl 1 rfl) ?_
        refine lv_iconst (v := iI (2)) hx hb dX11_now_83 rfl ?_
        refine j_icmp_ne (tgt := 96) hx hb (by omega) dX11_now_84 (by decide) (fun c_84 => ?_) (fun c_84 => ?_)
        · refine lv_iload_n hx hb dX11_now_96 rfl (lv_at hl 1 rfl) ?_
          refine lv_iconst (v := iI (3)) hx hb dX11_now_97 rfl ?_
          refine j_icmp_ne (tgt := 110) hx hb (by omega) dX11_now_98 (by decide) (fun c_98 => ?_) (fun c_98 => ?_)
          · refine lv_iload_n hx hb dX11_now_110 rfl (lv_at hl 1 rfl) ?_
            refine lv_iconst (v := iI (4)) hx hb dX11_now_111 rfl ?_
            refine j_icmp_ne (tgt := 122) hx hb (by omega) dX11_now_112 (by decide) (fun c_112 => ?_) (fun c_112 => ?_)
            · refine lv_aload_n hx hb dX11_now_122 rfl (lv_at hl 0 rfl) ?_
              refine va_get (D := D) (ci := 11) (v := .ref h43) (C := RX11) (T := TX11) (N := 32) hx hb hts UX11 hown hK hP 0 rfl rfl 11 (by decide) L19 (fun _ h9 => h9) rfl dX11_now_123 ?_
              refine lv_iload_n hx hb dX11_now_126 rfl (lv_at hl 1 rfl) ?_
              refine j_iald hx hb hK hP 3 0 rfl rfl (by omega) dX11_now_127 ?_
              rw [hQ]; exact jm_iret (sa w) hx hb hr hlocks hS hP rfl (by (try dsimp only); refine ⟨fun q9 => ?_, fun q9 => ?_, fun q9 => ?_, fun q9 => ?_, fun q9 => ?_⟩ <;> first | exact False.elim (by omega) | rfl | (rw [if_pos (by omega)]; done) | (rw [if_neg (by omega)]; done) | (rw [show w + 1 = 2 by omega]; done) | (rw [show w + 1 = 3 by omega]; done) | (rw [show w + 1 = 4 by omega]; done)) dX11_now_128
            · refine lv_aload_n hx hb dX11_now_115 rfl (lv_at hl 0 rfl) ?_
              refine j_rd (va_runV (As := []) (rest := []) ⟨hx, hb, hml, hown, hts⟩ (c_X11_state l D cI cZ z h0 h40 h41 h42 h43 h44 h45 h46 h47 h48 h49 h50 h51 h52 0 tra tn nx tk pl va fl tc km ta le rm9 rc9 fa tr ro lo td gd sa dr (by first | assumption | omega) (by first | assumption | omega) (by first | assumption | omega) (by first | assumption | omega) H.size) (cwV 0 hts gX11_now_X11_state rfl rfl rfl hvX11_state ⟨Nat.le_of_ble_eq_true rfl, Nat.le_of_ble_eq_true rfl⟩) (j_preV hP hD hK hS hZ hA [0, 1, 2, 3] rfl rfl 0 rfl rfl) rfl rfl hl.1 rfl (lv_room (Nat.le_of_ble_eq_true rfl)) dX11_now_116 ⟨Nat.zero_le _, Nat.zero_le _⟩) ?_
              refine lv_goto (tgt := 128) hx hb dX11_now_119 (by decide) ?_
              rw [hQ]; exact jm_iret ((mSt (td 0) (td 1) gd (sa 0) (sa 1) (sa 4))) hx hb hr hlocks hS hP rfl (by (try dsimp only); refine ⟨fun q9 => ?_, fun q9 => ?_, fun q9 => ?_, fun q9 => ?_, fun q9 => ?_⟩ <;> first | exact False.elim (by omega) | rfl | (rw [if_pos (by omega)]; done) | (rw [if_neg (by omega)]; done) | (rw [show w + 1 = 2 by omega]; done) | (rw [show w + 1 = 3 by omega]; done) | (rw [show w + 1 = 4 by omega]; done)) dX11_now_128
          · refine lv_aload_n hx hb dX11_now_101 rfl (lv_at hl 0 rfl) ?_
            refine va_get (D := D) (ci := 11) (v := .ref h43) (C := RX11) (T := TX11) (N := 32) hx hb hts UX11 hown hK hP 0 rfl rfl 11 (by decide) L19 (fun _ h9 => h9) rfl dX11_now_102 ?_
            refine lv_iconst (v := iI (4)) hx hb dX11_now_105 rfl ?_
            refine j_iald hx hb hK hP 3 0 rfl rfl (by omega) dX11_now_106 ?_
            refine lv_goto (tgt := 128) hx hb dX11_now_107 (by decide) ?_
            rw [hQ]; exact jm_iret (sa 4) hx hb hr hlocks hS hP rfl (by (try dsimp only); refine ⟨fun q9 => ?_, fun q9 => ?_, fun q9 => ?_, fun q9 => ?_, fun q9 => ?_⟩ <;> first | exact False.elim (by omega) | rfl | (rw [if_pos (by omega)]; done) | (rw [if_neg (by omega)]; done) | (rw [show w + 1 = 2 by omega]; done) | (rw [show w + 1 = 3 by omega]; done) | (rw [show w + 1 = 4 by omega]; done)) dX11_now_128
        · refine lv_aload_n hx hb dX11_now_87 rfl (lv_at hl 0 rfl) ?_
          refine va_get (D := D) (ci := 11) (v := .ref h43) (C := RX11) (T := TX11) (N := 32) hx hb hts UX11 hown hK hP 0 rfl rfl 11 (by decide) L19 (fun _ h9 => h9) rfl dX11_now_88 ?_
          refine lv_iconst (v := iI (3)) hx hb dX11_now_91 rfl ?_
          refine j_iald hx hb hK hP 3 0 rfl rfl (by omega) dX11_now_92 ?_
          refine lv_goto (tgt := 128) hx hb dX11_now_93 (by decide) ?_
          rw [hQ]; exact jm_iret (sa 3) hx hb hr hlocks hS hP rfl (by (try dsimp only); refine ⟨fun q9 => ?_, fun q9 => ?_, fun q9 => ?_, fun q9 => ?_, fun q9 => ?_⟩ <;> first | exact False.elim (by omega) | rfl | (rw [if_pos (by omega)]; done) | (rw [if_neg (by omega)]; done) | (rw [show w + 1 = 2 by omega]; done) | (rw [show w + 1 = 3 by omega]; done) | (rw [show w + 1 = 4 by omega]; done)) dX11_now_128
      · refine lv_aload_n hx hb dX11_now_73 rfl (lv_at hl 0 rfl) ?_
        refine va_get (D := D) (ci := 11) (v := .ref h43) (C := RX11) (T := TX11) (N := 32) hx hb hts UX11 hown hK hP 0 rfl rfl 11 (by decide) L19 (fun _ h9 => h9) rfl dX11_now_74 ?_
        refine lv_iconst (v := iI (2)) hx hb dX11_now_77 rfl ?_
        refine j_iald hx hb hK hP 3 0 rfl rfl (by omega) dX11_now_78 ?_
        refine lv_goto (tgt := 128) hx hb dX11_now_79 (by decide) ?_
        rw [hQ]; exact jm_iret (sa 2) hx hb hr hlocks hS hP rfl (by (try dsimp only); refine ⟨fun q9 => ?_, fun q9 => ?_, fun q9 => ?_, fun q9 => ?_, fun q9 => ?_⟩ <;> first | exact False.elim (by omega) | rfl | (rw [if_pos (by omega)]; done) | (rw [if_neg (by omega)]; done) | (rw [show w + 1 = 2 by omega]; done) | (rw [show w + 1 = 3 by omega]; done) | (rw [show w + 1 = 4 by omega]; done)) dX11_now_128
    · refine lv_aload_n hx hb dX11_now_21 rfl (lv_at hl 0 rfl) ?_
      refine lv_aload_n hx hb dX11_now_22 rfl (lv_at hl 0 rfl) ?_
      refine va_get (D := D) (ci := 11) (v := .ref h43) (C := RX11) (T := TX11) (N := 32) hx hb hts UX11 hown hK hP 0 rfl rfl 11 (by decide) L19 (fun _ h9 => h9) rfl dX11_now_23 ?_
      refine lv_iconst (v := iI (0)) hx hb dX11_now_26 rfl ?_
      refine j_iald hx hb hK hP 3 0 rfl rfl (by omega) dX11_now_27 ?_
      refine lv_aload_n hx hb dX11_now_28 rfl (lv_at hl 0 rfl) ?_
      refine va_get (D := D) (ci := 11) (v := .ref h43) (C := RX11) (T := TX11) (N := 32) hx hb hts UX11 hown hK hP 0 rfl rfl 11 (by decide) L19 (fun _ h9 => h9) rfl dX11_now_29 ?_
      refine lv_iconst (v := iI (1)) hx hb dX11_now_32 rfl ?_
      refine j_iald hx hb hK hP 3 0 rfl rfl (by omega) dX11_now_33 ?_
      refine j_rd (va_runV (As := [.int (iI (sa 0)), .int (iI (sa 1))]) (rest := []) ⟨hx, hb, hml, hown, hts⟩ (c_X11_at l D cI cZ z h0 h40 h41 h42 h43 h44 h45 h46 h47 h48 h49 h50 h51 h52 (sa 0) (sa 1) 0 tra tn nx tk pl va fl tc km ta le rm9 rc9 fa tr ro lo td gd dr (by first | assumption | omega) (by first | assumption | omega) (by first | assumption | omega) (by first | assumption | omega) (by first | assumption | omega) H.size) (cwV 2 hts gX11_now_X11_at rfl rfl rfl hvX11_at ⟨Nat.le_of_ble_eq_true rfl, Nat.le_of_ble_eq_true rfl⟩) (j_preV hP hD hK hS hZ hA [0, 1, 2] rfl rfl 0 rfl rfl) rfl rfl hl.1 rfl (lv_room (Nat.le_of_ble_eq_true rfl)) dX11_now_34 ⟨Nat.zero_le _, Nat.zero_le _⟩) ?_
      refine lv_bipush (v := iI (-5)) hx hb dX11_now_37 (by decide) ?_
      refine j_icmp_ne (tgt := 47) hx hb (by omega) dX11_now_39 (by decide) (fun c_39 => ?_) (fun c_39 => ?_)
      · refine lv_aload_n hx hb dX11_now_47 rfl (lv_at hl 0 rfl) ?_
        refine va_get (D := D) (ci := 11) (v := .ref h41) (C := RX11) (T := TX11) (N := 32) hx hb hts UX11 hown hK hP 0 rfl rfl 9 (by decide) L13 (fun _ h9 => h9) rfl dX11_now_48 ?_
        refine lv_iconst (v := iI (0)) hx hb dX11_now_51 rfl ?_
        refine j_iald hx hb hK hP 1 0 rfl rfl (by omega) dX11_now_52 ?_
        refine lv_aload_n hx hb dX11_now_53 rfl (lv_at hl 0 rfl) ?_
        refine va_get (D := D) (ci := 11) (v := .ref h43) (C := RX11) (T := TX11) (N := 32) hx hb hts UX11 hown hK hP 0 rfl rfl 11 (by decide) L19 (fun _ h9 => h9) rfl dX11_now_54 ?_
        refine lv_iconst (v := iI (1)) hx hb dX11_now_57 rfl ?_
        refine j_iald hx hb hK hP 3 0 rfl rfl (by omega) dX11_now_58 ?_
        refine j_imul hx hb dX11_now_59 ?_
        refine lv_aload_n hx hb dX11_now_60 rfl (lv_at hl 0 rfl) ?_
        refine va_get (D := D) (ci := 11) (v := .ref h43) (C := RX11) (T := TX11) (N := 32) hx hb hts UX11 hown hK hP 0 rfl rfl 11 (by decide) L19 (fun _ h9 => h9) rfl dX11_now_61 ?_
        refine lv_iconst (v := iI (0)) hx hb dX11_now_64 rfl ?_
        refine j_iald hx hb hK hP 3 0 rfl rfl (by omega) dX11_now_65 ?_
        refine j_iadd hx hb dX11_now_66 ?_
        rw [hQ]; exact jm_iret (((td 0) * (sa 1)) + (sa 0)) hx hb hr hlocks hS hP rfl (by (try dsimp only); refine ⟨fun q9 => ?_, fun q9 => ?_, fun q9 => ?_, fun q9 => ?_, fun q9 => ?_⟩ <;> first | exact False.elim (by omega) | rfl | (rw [if_pos (by omega)]; done) | (rw [if_neg (by omega)]; done) | (rw [show w + 1 = 2 by omega]; done) | (rw [show w + 1 = 3 by omega]; done) | (rw [show w + 1 = 4 by omega]; done)) dX11_now_67
      · refine lv_bipush (v := iI (-9)) hx hb dX11_now_42 (by decide) ?_
        refine lv_goto (tgt := 67) hx hb dX11_now_44 (by decide) ?_
        rw [hQ]; exact jm_iret (-9) hx hb hr hlocks hS hP rfl (by (try dsimp only); refine ⟨fun q9 => ?_, fun q9 => ?_, fun q9 => ?_, fun q9 => ?_, fun q9 => ?_⟩ <;> first | exact False.elim (by omega) | rfl | (rw [if_pos (by omega)]; done) | (rw [if_neg (by omega)]; done) | (rw [show w + 1 = 2 by omega]; done) | (rw [show w + 1 = 3 by omega]; done) | (rw [show w + 1 = 4 by omega]; done)) dX11_now_67
  · refine lv_iconst (v := iI (-1)) hx hb dX11_now_15 rfl ?_
    rw [hQ]; exact jm_iret (-1) hx hb hr hlocks hS hP rfl (by (try dsimp only); refine ⟨fun q9 => ?_, fun q9 => ?_, fun q9 => ?_, fun q9 => ?_, fun q9 => ?_⟩ <;> first | exact False.elim (by omega) | rfl | (rw [if_pos (by omega)]; done) | (rw [if_neg (by omega)]; done) | (rw [show w + 1 = 2 by omega]; done) | (rw [show w + 1 = 3 by omega]; done) | (rw [show w + 1 = 4 by omega]; done)) dX11_now_16
