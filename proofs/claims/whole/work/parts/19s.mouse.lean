theorem hsX8_add : yX8_add.cls ≠ "java/lang/invoke/MethodHandle" ∧ yX8_add.cls ≠ "java/lang/invoke/VarHandle" ∧ (parseMethodDescriptor yX8_add.desc).map (fun d => d.parameters.length) = some 1 := by decide +kernel
theorem hvX8_add : yX8_add.cls = RX8 ∧ yX8_add.cls ≠ "java/lang/invoke/MethodHandle" ∧ yX8_add.cls ≠ "java/lang/invoke/VarHandle" ∧ (parseMethodDescriptor yX8_add.desc).map (fun d => d.parameters.length) = some 1 := ⟨rfl, hsX8_add⟩
abbrev rmX10_type : Room := { frames := 2, cells := 0, slots := 0, locals := 43 }
set_option maxHeartbeats 4000000 in
set_option maxRecDepth 100000 in
theorem c_X10_type (l : Launch) (D : va_G) (cI cZ : ClassId) (z : jZT) (h0 h20 h21 h10 h12 h14 h15 h16 h8 h1 h6 h2 h3 h17 h18 h19 h22 : Nat) (v n tk9 lt tra tn pl fi so va : Int) (tb : Int → Int) (hTx : TxtI tb tn) (hn : -2147483648 ≤ n ∧ n < 2147483648) : jMu (S := (Int → Int) × Int × Int) l yX10_type wsX10_type rmX10_type [.ref h0, .long (lI (v)), .int (iI (n))] D cI cZ z [(h0, .inr (10, [.ref h20, .ref h21, .ref h10, .ref h12, .ref h14, .ref h15, .ref h16, .ref h8, .ref h1, .ref h6, .ref h2, .ref h3, .ref h17, .ref h18, .int (iI (tk9)), .ref h19, .int (iI (lt)), .long (lI (tra))])), (h20, .inr (8, [.ref h22, .int (iI (tn)), .int (iI (pl)), .int (iI (fi)), .int (iI (so)), .int (iI (va))])), (h22, .inl (cI, 300, .inl (aI tb)))] (fun u => some (.int (iI (u.2.2)))) (fun u => if n < 1 ∨ 8 < n then u.2.2 = -1 ∧ u.2.1 = tn ∧ u.1 = tb else if 300 < tn + n then u.2.2 = -3 ∧ u.2.1 = tn ∧ u.1 = tb else u.2.2 = tn + n ∧ u.2.1 = tn + n ∧ u.1 = tyB v tb tn n.toNat n.toNat) (fun u => [(h0, .inr (10, [.ref h20, .ref h21, .ref h10, .ref h12, .ref h14, .ref h15, .ref h16, .ref h8, .ref h1, .ref h6, .ref h2, .ref h3, .ref h17, .ref h18, .int (iI (tk9)), .ref h19, .int (iI (lt)), .long (lI (tra))])), (h20, .inr (8, [.ref h22, .int (iI (u.2.1)), .int (iI (pl)), .int (iI (fi)), .int (iI (so)), .int (iI (va))])), (h22, .inl (cI, 300, .inl (aI u.1)))]) := by
  refine jMu_of (cc := cX10_type) (n := 5) (ret := (some .int)) (by decide) rfl (Nat.le_of_ble_eq_true rfl) ?_
  intro p e s m below meth c A ls args Q hQ F hA hZ hP hK hD hS hl
  obtain ⟨hx, hb, hr, hml, hown, hts, hlocks⟩ := F
  have hown : s.vm.findClass RX10 = some m.cls := hown
  have hl : lv_has ls 5 [(0, .ref h0), (1, .long (lI (v))), (3, .int (iI (n)))] := hl
  have L12 := hts (.fieldLink RX10 12 "TinMouse" "text" "LTinMouse$Text;") (by decide +kernel)
  have L111 := hts (.fieldLink RX10 111 "TinMouse$Text" "length" "I") (by decide +kernel)
  have UX10 : ∀ w ∈ wsX100, w ∈ wsX10_type := fun w h => List.mem_cons_of_mem _ (List.mem_append_left _ (List.mem_append_right _ h))
  have UX8 : ∀ w ∈ wsX80, w ∈ wsX10_type := fun w h => List.mem_cons_of_mem _ (List.mem_append_right _ h)
  have htn := hTx.1
  refine lv_iload_n hx hb dX10_type_0 rfl (lv_at hl 2 rfl) ?_
  refine lv_iconst (v := iI (1)) hx hb dX10_type_1 rfl ?_
  refine j_icmp_lt (tgt := 11) hx hb (by omega) dX10_type_2 (by decide) (fun c_2 => ?_) (fun c_2 => ?_)
  · refine lv_iconst (v := iI (-1)) hx hb dX10_type_11 rfl ?_
    rw [hQ]; exact jm_iret (tb, tn, -1) hx hb hr hlocks hS hP rfl (by (try dsimp only); first | (rw [if_pos (by omega)]; exact ⟨rfl, rfl, rfl⟩) | (rw [if_neg (by omega), if_pos (by omega)]; exact ⟨rfl, rfl, rfl⟩) | (rw [if_neg (by omega), if_neg (by omega)]; exact ⟨by omega, by omega, by rw [hi3, show k = n.toNat by omega]⟩)) dX10_type_12
  · refine lv_iload_n hx hb dX10_type_5 rfl (lv_at hl 2 rfl) ?_
    refine lv_bipush (v := iI (8)) hx hb dX10_type_6 (by decide) ?_
    refine j_icmp_le (tgt := 13) hx hb (by omega) dX10_type_8 (by decide) (fun c_8 => ?_) (fun c_8 => ?_)
    · refine lv_aload_n hx hb dX10_type_13 rfl (lv_at hl 0 rfl) ?_
      refine va_get (D := D) (ci := 10) (v := .ref h20) (C := RX10) (T := TX10) (N := 18) hx hb hts UX10 hown hK hP 0 rfl rfl 0 (by decide) L12 (fun _ h9 => h9) rfl dX10_type_14 ?_
      refine va_get (D := D) (ci := 8) (v := .int (iI (tn))) (C := RX8) (T := TX8) (N := 6) hx hb hts UX8 hown hK hP 1 rfl rfl 1 (by decide) L111 (fun _ h9 => h9) rfl dX10_type_17 ?_
      refine lv_iload_n hx hb dX10_type_20 rfl (lv_at hl 2 rfl) ?_
      refine j_iadd hx hb dX10_type_21 ?_
      refine lv_sipush (v := iI (300)) hx hb dX10_type_22 (by decide) ?_
      refine j_icmp_le (tgt := 31) hx hb (by omega) dX10_type_25 (by decide) (fun c_25 => ?_) (fun c_25 => ?_)
      · refine lv_iload_n hx hb dX10_type_31 rfl (lv_at hl 2 rfl) ?_
        refine lv_iconst (v := iI (1)) hx hb dX10_type_32 rfl ?_
        refine j_isub hx hb dX10_type_33 ?_
        refine lv_istore (lv' := [(4, .int (iI (n - 1))), (0, .ref h0), (1, .long (lI (v))), (3, .int (iI (n)))]) hx hb dX10_type_34 hl (by decide) rfl (fun ls hl => ?_)
        have loop_36 : ∀ (fuel_36 : Nat) (i : Int) (tb9 : Int → Int) (tn9 : Int) (k : Nat), ((i = n - 1 - (k : Int) ∧ -1 ≤ i) ∧ tn9 = tn + (k : Int) ∧ tb9 = tyB v tb tn n.toNat k) → (i + 1).toNat < fuel_36 → ∀ (H : Heap) (locs : List Loc), va_P D vwCl [(h0, .inr (10, [.ref h20, .ref h21, .ref h10, .ref h12, .ref h14, .ref h15, .ref h16, .ref h8, .ref h1, .ref h6, .ref h2, .ref h3, .ref h17, .ref h18, .int (iI (tk9)), .ref h19, .int (iI (lt)), .long (lI (tra))])), (h20, .inr (8, [.ref h22, .int (iI (tn9)), .int (iI (pl)), .int (iI (fi)), .int (iI (so)), .int (iI (va))])), (h22, .inl (cI, 300, .inl (aI tb9)))] H → va_D A [(h0, .inr (10, [.ref h20, .ref h21, .ref h10, .ref h12, .ref h14, .ref h15, .ref h16, .ref h8, .ref h1, .ref h6, .ref h2, .ref h3, .ref h17, .ref h18, .int (iI (tk9)), .ref h19, .int (iI (lt)), .long (lI (tra))])), (h20, .inr (8, [.ref h22, .int (iI (tn9)), .int (iI (pl)), .int (iI (fi)), .int (iI (so)), .int (iI (va))])), (h22, .inl (cI, 300, .inl (aI tb9)))] → va_S A s.heap H locs → ∀ ls : Array Slot, lv_has ls 5 [(0, .ref h0), (1, .long (lI (v))), (4, .int (iI (i)))] → W p l e rmX10_type s m args below meth c H locs 0 0 Q (F0 m 36 ls []) := by
          intro fuel_36
          induction fuel_36 with
          | zero => intro i tb9 tn9 k hI9 hm9; exact absurd hm9 (Nat.not_lt_zero _)
          | succ fuel_36 ih_36 =>
            intro i tb9 tn9 k hI_36 hm_36 H locs hP hD hS ls hl
            obtain ⟨hi1, hi2, hi3⟩ := hI_36
            refine lv_iload hx hb dX10_type_36 (lv_at hl 2 rfl) ?_
            refine j_if_lt (tgt := 66) hx hb (by omega) dX10_type_38 (by decide) (fun c_38 => ?_) (fun c_38 => ?_)
            · refine lv_aload_n hx hb dX10_type_66 rfl (lv_at hl 0 rfl) ?_
              refine va_get (D := D) (ci := 10) (v := .ref h20) (C := RX10) (T := TX10) (N := 18) hx hb hts UX10 hown hK hP 0 rfl rfl 0 (by decide) L12 (fun _ h9 => h9) rfl dX10_type_67 ?_
              refine va_get (D := D) (ci := 8) (v := .int (iI (tn9))) (C := RX8) (T := TX8) (N := 6) hx hb hts UX8 hown hK hP 1 rfl rfl 1 (by decide) L111 (fun _ h9 => h9) rfl dX10_type_70 ?_
              rw [hQ]; exact jm_iret (tb9, tn9, tn9) hx hb hr hlocks hS hP rfl (by (try dsimp only); first | (rw [if_pos (by omega)]; exact ⟨rfl, rfl, rfl⟩) | (rw [if_neg (by omega), if_pos (by omega)]; exact ⟨rfl, rfl, rfl⟩) | (rw [if_neg (by omega), if_neg (by omega)]; exact ⟨by omega, by omega, by rw [hi3, show k = n.toNat by omega]⟩)) dX10_type_73
            · refine lv_aload_n hx hb dX10_type_41 rfl (lv_at hl 0 rfl) ?_
              refine va_get (D := D) (ci := 10) (v := .ref h20) (C := RX10) (T := TX10) (N := 18) hx hb hts UX10 hown hK hP 0 rfl rfl 0 (by decide) L12 (fun _ h9 => h9) rfl dX10_type_42 ?_
              refine lv_lload_n hx hb dX10_type_45 rfl (lv_at hl 1 rfl) ?_
              refine lv_bipush (v := iI (8)) hx hb dX10_type_46 (by decide) ?_
              refine lv_iload hx hb dX10_type_48 (lv_at hl 2 rfl) ?_
              refine j_imul hx hb dX10_type_50 ?_
              refine lv_lushr hx hb dX10_type_51 (lushr8 (v := v) (i := i) (n := i.toNat) (by omega) (by omega)) ?_
              refine j_l2i hx hb dX10_type_52 ?_
              refine lv_sipush (v := iI (255)) hx hb dX10_type_53 (by decide) ?_
              refine lv_iand hx hb dX10_type_56 ?_
              rw [iand255]
              refine j_muv (va_runV (As := [.int (iI ((v % 18446744073709551616 / 256 ^ i.toNat) % 256))]) (rest := []) ⟨hx, hb, hml, hown, hts⟩ (c_X8_add l D cI cZ z h20 h22 ((v % 18446744073709551616 / 256 ^ i.toNat) % 256) tn9 pl fi so va tb9 (by omega) H.size) (cwV 1 hts gX10_type_X8_add rfl rfl rfl hvX8_add ⟨Nat.le_of_ble_eq_true rfl, Nat.le_of_ble_eq_true rfl⟩) (j_preV hP hD hK hS hZ hA [1, 2] rfl rfl 1 rfl rfl) rfl rfl hl.1 rfl (lv_room (Nat.le_of_ble_eq_true rfl)) dX10_type_57 ⟨Nat.zero_le _, Nat.zero_le _⟩) hP hD hS hA [1, 2] rfl (fun _ => rfl) (fun tb2_1 H locs hw_57 hP hD hS => ?_)
              have hP : va_P D vwCl [(h0, .inr (10, [.ref h20, .ref h21, .ref h10, .ref h12, .ref h14, .ref h15, .ref h16, .ref h8, .ref h1, .ref h6, .ref h2, .ref h3, .ref h17, .ref h18, .int (iI (tk9)), .ref h19, .int (iI (lt)), .long (lI (tra))])), (h20, .inr (8, [.ref h22, .int (iI (tn9 + 1)), .int (iI (pl)), .int (iI (fi)), .int (iI (so)), .int (iI (va))])), (h22, .inl (cI, 300, .inl (aI tb2_1)))] H := hP
              have hD : va_D A [(h0, .inr (10, [.ref h20, .ref h21, .ref h10, .ref h12, .ref h14, .ref h15, .ref h16, .ref h8, .ref h1, .ref h6, .ref h2, .ref h3, .ref h17, .ref h18, .int (iI (tk9)), .ref h19, .int (iI (lt)), .long (lI (tra))])), (h20, .inr (8, [.ref h22, .int (iI (tn9 + 1)), .int (iI (pl)), .int (iI (fi)), .int (iI (so)), .int (iI (va))])), (h22, .inl (cI, 300, .inl (aI tb2_1)))] := hD
              refine lv_iinc (v := iI (i + (-1))) (lv' := [(4, .int (iI (i + (-1)))), (0, .ref h0), (1, .long (lI (v)))]) hx hb dX10_type_60 hl (k := 2) rfl (iI_add _ _) (by decide) rfl (fun ls hl => ?_)
              refine lv_goto (tgt := 36) hx hb dX10_type_63 (by decide) ?_
              exact ih_36 ((i + (-1))) tb2_1 ((tn9 + 1)) (k + 1) (by exact ⟨by omega, by omega, by rw [tyB, hw_57, ← hi3, hi2]; unfold byF; rw [show n.toNat - 1 - k = i.toNat by omega]⟩) (by omega) H locs hP hD hS ls (lv_sub hl [1, 2, 0] rfl)
        exact loop_36 _ (n - 1) tb tn 0 (by exact ⟨by omega, by omega, rfl⟩) (Nat.lt_succ_self _) s.heap [] hP hD hS ls (lv_sub hl [1, 2, 0] rfl)
      · refine lv_bipush (v := iI (-3)) hx hb dX10_type_28 (by decide) ?_
        rw [hQ]; exact jm_iret (tb, tn, -3) hx hb hr hlocks hS hP rfl (by (try dsimp only); first | (rw [if_pos (by omega)]; exact ⟨rfl, rfl, rfl⟩) | (rw [if_neg (by omega), if_pos (by omega)]; exact ⟨rfl, rfl, rfl⟩) | (rw [if_neg (by omega), if_neg (by omega)]; exact ⟨by omega, by omega, by rw [hi3, show k = n.toNat by omega]⟩)) dX10_type_30
    · refine lv_iconst (v := iI (-1)) hx hb dX10_type_11 rfl ?_
      rw [hQ]; exact jm_iret (tb, tn, -1) hx hb hr hlocks hS hP rfl (by (try dsimp only); first | (rw [if_pos (by omega)]; exact ⟨rfl, rfl, rfl⟩) | (rw [if_neg (by omega), if_pos (by omega)]; exact ⟨rfl, rfl, rfl⟩) | (rw [if_neg (by omega), if_neg (by omega)]; exact ⟨by omega, by omega, by rw [hi3, show k = n.toNat by omega]⟩)) dX10_type_12
