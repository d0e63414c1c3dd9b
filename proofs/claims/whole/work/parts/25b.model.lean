abbrev rmX11_byteAt : Room := { frames := 0, cells := 0, slots := 0, locals := 0 }
set_option maxHeartbeats 4000000 in
set_option maxRecDepth 100000 in
theorem c_X11_byteAt (l : Launch) (D : va_G) (cI cZ : ClassId) (z : jZT) (h0 h40 h41 h42 h43 h44 h45 h46 h47 h48 h49 h50 h51 h52 : Nat) (k th tra tn nx tk pl va fl tc km ta le rm9 rc9 fa tr ro lo : Int) (tx : Int → Int) (dr : Bool) (hTx : TxtI tx tn) (hk : 0 ≤ k ∧ k < 1000) : jRd l yX11_byteAt wsX11_byteAt rmX11_byteAt [.ref h0, .int (iI (k))] D cI cZ z [(h0, .inr (11, [.int (iI (th)), .long (lI (tra)), .ref h40, .int (iI (tn)), .int (iI (nx)), .int (iI (tk)), .int (iI (pl)), .int (iI (va)), .int (iI (fl)), .ref h41, .ref h42, .ref h43, .ref h44, .ref h45, .ref h46, .ref h47, .ref h48, .ref h49, .ref h50, .ref h51, .int (iI (tc)), .ref h52, .int (iI (km)), .int (iI (bI dr)), .int (iI (ta)), .int (iI (le)), .int (iI (rm9)), .int (iI (rc9)), .int (iI (fa)), .int (iI (tr)), .int (iI (ro)), .int (iI (lo))])), (h40, .inl (cI, 300, .inl (aI tx)))] (some (.int (iI (btF tx tn k)))) := by
  refine jRd_of (cc := cX11_byteAt) (n := 2) (ret := (some .int)) (by decide) rfl (Nat.le_of_ble_eq_true rfl) ?_
  intro p e s m below meth c A ls args Q hQ F hA hZ hP hK hD hS hl
  obtain ⟨hx, hb, hr, hml, hown, hts, hlocks⟩ := F
  have hown : s.vm.findClass RX11 = some m.cls := hown
  have hl : lv_has ls 2 [(0, .ref h0), (1, .int (iI (k)))] := hl
  have L64 := hts (.fieldLink RX11 64 "TinMouseModel" "typed" "I") (by decide +kernel)
  have L7 := hts (.fieldLink RX11 7 "TinMouseModel" "text" "[I") (by decide +kernel)
  have UX11 : ∀ w ∈ wsX110, w ∈ wsX11_byteAt := fun w h => List.mem_cons_of_mem _ (List.mem_append_right _ h)
  have htn := hTx.1
  refine lv_iload_n hx hb dX11_byteAt_0 rfl (lv_at hl 1 rfl) ?_
  refine lv_aload_n hx hb dX11_byteAt_1 rfl (lv_at hl 0 rfl) ?_
  refine va_get (D := D) (ci := 11) (v := .int (iI (tn))) (C := RX11) (T := TX11) (N := 32) hx hb hts UX11 hown hK hP 0 rfl rfl 3 (by decide) L64 (fun _ h9 => h9) rfl dX11_byteAt_2 ?_
  refine j_icmp_ge (tgt := 17) hx hb (by omega) dX11_byteAt_5 (by decide) (fun c_5 => ?_) (fun c_5 => ?_)
  · refine lv_iconst (v := iI (-1)) hx hb dX11_byteAt_17 rfl ?_
    rw [hQ]; exact jr_iret hx hb hr hlocks (jo_i (by unfold btF; first | (rw [if_pos (by omega)]; done) | (rw [if_neg (by omega)]; done))) dX11_byteAt_18
  · refine lv_aload_n hx hb dX11_byteAt_8 rfl (lv_at hl 0 rfl) ?_
    refine va_get (D := D) (ci := 11) (v := .ref h40) (C := RX11) (T := TX11) (N := 32) hx hb hts UX11 hown hK hP 0 rfl rfl 2 (by decide) L7 (fun _ h9 => h9) rfl dX11_byteAt_9 ?_
    refine lv_iload_n hx hb dX11_byteAt_12 rfl (lv_at hl 1 rfl) ?_
    refine j_iald hx hb hK hP 1 0 rfl rfl (by omega) dX11_byteAt_13 ?_
    refine lv_goto (tgt := 18) hx hb dX11_byteAt_14 (by decide) ?_
    rw [hQ]; exact jr_iret hx hb hr hlocks (jo_i (by unfold btF; first | (rw [if_pos (by omega)]; done) | (rw [if_neg (by omega)]; done))) dX11_byteAt_18
abbrev rmX11_add : Room := { frames := 0, cells := 0, slots := 0, locals := 0 }
set_option maxHeartbeats 4000000 in
set_option maxRecDepth 100000 in
theorem c_X11_add (l : Launch) (D : va_G) (cI cZ : ClassId) (z : jZT) (a9 c9 : Int) (hc : 0 ≤ c9 ∧ c9 < 256) : jRd l yX11_add wsX11_add rmX11_add [.long (lI (a9)), .int (iI (c9))] D cI cZ z [] (some (.long (lI (adF a9 c9)))) := by
  refine jRd_of (cc := cX11_add) (n := 3) (ret := (some .long)) (by decide) rfl (Nat.le_of_ble_eq_true rfl) ?_
  intro p e s m below meth c A ls args Q hQ F hA hZ hP hK hD hS hl
  obtain ⟨hx, hb, hr, hml, hown, hts, hlocks⟩ := F
  have hown : s.vm.findClass RX11 = some m.cls := hown
  have hl : lv_has ls 3 [(0, .long (lI (a9))), (2, .int (iI (c9)))] := hl
  have C69 := hts (.constantLong RX11 69 (256)) (by decide +kernel)
  refine lv_iload_n hx hb dX11_add_0 rfl (lv_at hl 1 rfl) ?_
  refine j_if_ne (tgt := 8) hx hb (by omega) dX11_add_1 (by decide) (fun c_1 => ?_) (fun c_1 => ?_)
  · refine lv_ldc2 (v := lI (256)) hx hb hown C69 dX11_add_8 ?_
    refine lv_lload_n hx hb dX11_add_11 rfl (lv_at hl 0 rfl) ?_
    refine j_lmul hx hb dX11_add_12 ?_
    refine lv_iload_n hx hb dX11_add_13 rfl (lv_at hl 1 rfl) ?_
    refine j_i2l hx hb (by omega) dX11_add_14 ?_
    refine j_ladd hx hb dX11_add_15 ?_
    rw [hQ]; exact jr_lret hx hb hr hlocks (jo_l (by unfold adF; first | (rw [if_pos (by omega)]; done) | (rw [if_neg (by omega)]; done))) dX11_add_16
  · refine lv_lload_n hx hb dX11_add_4 rfl (lv_at hl 0 rfl) ?_
    refine lv_goto (tgt := 16) hx hb dX11_add_5 (by decide) ?_
    rw [hQ]; exact jr_lret hx hb hr hlocks (jo_l (by unfold adF; first | (rw [if_pos (by omega)]; done) | (rw [if_neg (by omega)]; done))) dX11_add_16
theorem hsX11_add : yX11_add.cls ≠ "java/lang/invoke/MethodHandle" ∧ yX11_add.cls ≠ "java/lang/invoke/VarHandle" ∧ (parseMethodDescriptor yX11_add.desc).map (fun d => d.parameters.length) = some 2 := by decide +kernel
theorem hvX11_add : yX11_add.cls = RX11 ∧ yX11_add.cls ≠ "java/lang/invoke/MethodHandle" ∧ yX11_add.cls ≠ "java/lang/invoke/VarHandle" ∧ (parseMethodDescriptor yX11_add.desc).map (fun d => d.parameters.length) = some 2 := ⟨rfl, hsX11_add⟩
abbrev rmX11_named : Room := { frames := 1, cells := 0, slots := 0, locals := 22 }
set_option maxHeartbeats 4000000 in
set_option maxRecDepth 100000 in
theorem c_X11_named (l : Launch) (D : va_G) (cI cZ : ClassId) (z : jZT) (a1 a2 a3 a4 a5 : Int) (h1 : 0 ≤ a1 ∧ a1 < 256) (h2 : 0 ≤ a2 ∧ a2 < 256) (h3 : 0 ≤ a3 ∧ a3 < 256) (h4 : 0 ≤ a4 ∧ a4 < 256) (h5 : 0 ≤ a5 ∧ a5 < 256) : jRd l yX11_named wsX11_named rmX11_named [.int (iI (a1)), .int (iI (a2)), .int (iI (a3)), .int (iI (a4)), .int (iI (a5))] D cI cZ z [] (some (.long (lI (adF (adF (adF (adF (adF 0 a1) a2) a3) a4) a5)))) := by
  refine jRd_of (cc := cX11_named) (n := 5) (ret := (some .long)) (by decide) rfl (Nat.le_of_ble_eq_true rfl) ?_
  intro p e s m below meth c A ls args Q hQ F hA hZ hP hK hD hS hl
  obtain ⟨hx, hb, hr, hml, hown, hts, hlocks⟩ := F
  have hown : s.vm.findClass RX11 = some m.cls := hown
  have hl : lv_has ls 5 [(0, .int (iI (a1))), (1, .int (iI (a2))), (2, .int (iI (a3))), (3, .int (iI (a4))), (4, .int (iI (a5)))] := hl
  refine lv_lconst (v := lI (0)) hx hb dX11_named_0 (by decide) ?_
  refine lv_iload_n hx hb dX11_named_1 rfl (lv_at hl 0 rfl) ?_
  refine j_rd (va_runS (As := [.long (lI (0)), .int (iI (a1))]) (rest := []) ⟨hx, hb, hml, hown, hts⟩ (c_X11_add l D cI cZ z 0 a1 (by first | assumption | omega) s.heap.size) (va_cwS 2 hts gX11_named_X11_add rfl rfl rfl hsX11_add ⟨Nat.le_of_ble_eq_true rfl, Nat.le_of_ble_eq_true rfl⟩) (j_preS hP hD hK hS hZ hA [] rfl rfl) rfl rfl hl.1 rfl (lv_room (Nat.le_of_ble_eq_true rfl)) dX11_named_2 ⟨Nat.zero_le _, Nat.zero_le _⟩) ?_
  refine lv_iload_n hx hb dX11_named_5 rfl (lv_at hl 1 rfl) ?_
  refine j_rd (va_runS (As := [.long (lI (adF 0 a1)), .int (iI (a2))]) (rest := []) ⟨hx, hb, hml, hown, hts⟩ (c_X11_add l D cI cZ z (adF 0 a1) a2 (by first | assumption | omega) s.heap.size) (va_cwS 2 hts gX11_named_X11_add rfl rfl rfl hsX11_add ⟨Nat.le_of_ble_eq_true rfl, Nat.le_of_ble_eq_true rfl⟩) (j_preS hP hD hK hS hZ hA [] rfl rfl) rfl rfl hl.1 rfl (lv_room (Nat.le_of_ble_eq_true rfl)) dX11_named_6 ⟨Nat.zero_le _, Nat.zero_le _⟩) ?_
  refine lv_iload_n hx hb dX11_named_9 rfl (lv_at hl 2 rfl) ?_
  refine j_rd (va_runS (As := [.long (lI (adF (adF 0 a1) a2)), .int (iI (a3))]) (rest := []) ⟨hx, hb, hml, hown, hts⟩ (c_X11_add l D cI cZ z (adF (adF 0 a1) a2) a3 (by first | assumption | omega) s.heap.size) (va_cwS 2 hts gX11_named_X11_add rfl rfl rfl hsX11_add ⟨Nat.le_of_ble_eq_true rfl, Nat.le_of_ble_eq_true rfl⟩) (j_preS hP hD hK hS hZ hA [] rfl rfl) rfl rfl hl.1 rfl (lv_room (Nat.le_of_ble_eq_true rfl)) dX11_named_10 ⟨Nat.zero_le _, Nat.zero_le _⟩) ?_
  refine lv_iload_n hx hb dX11_named_13 rfl (lv_at hl 3 rfl) ?_
  refine j_rd (va_runS (As := [.long (lI (adF (adF (adF 0 a1) a2) a3)), .int (iI (a4))]) (rest := []) ⟨hx, hb, hml, hown, hts⟩ (c_X11_add l D cI cZ z (adF (adF (adF 0 a1) a2) a3) a4 (by first | assumption | omega) s.heap.size) (va_cwS 2 hts gX11_named_X11_add rfl rfl rfl hsX11_add ⟨Nat.le_of_ble_eq_true rfl, Nat.le_of_ble_eq_true rfl⟩) (j_preS hP hD hK hS hZ hA [] rfl rfl) rfl rfl hl.1 rfl (lv_room (Nat.le_of_ble_eq_true rfl)) dX11_named_14 ⟨Nat.zero_le _, Nat.zero_le _⟩) ?_
  refine lv_iload hx hb dX11_named_17 (lv_at hl 4 rfl) ?_
  refine j_rd (va_runS (As := [.long (lI (adF (adF (adF (adF 0 a1) a2) a3) a4)), .int (iI (a5))]) (rest := []) ⟨hx, hb, hml, hown, hts⟩ (c_X11_add l D cI cZ z (adF (adF (adF (adF 0 a1) a2) a3) a4) a5 (by first | assumption | omega) s.heap.size) (va_cwS 2 hts gX11_named_X11_add rfl rfl rfl hsX11_add ⟨Nat.le_of_ble_eq_true rfl, Nat.le_of_ble_eq_true rfl⟩) (j_preS hP hD hK hS hZ hA [] rfl rfl) rfl rfl hl.1 rfl (lv_room (Nat.le_of_ble_eq_true rfl)) dX11_named_19 ⟨Nat.zero_le _, Nat.zero_le _⟩) ?_
  rw [hQ]; exact jr_lret hx hb hr hlocks rfl dX11_named_22
theorem hsX11_named : yX11_named.cls ≠ "java/lang/invoke/MethodHandle" ∧ yX11_named.cls ≠ "java/lang/invoke/VarHandle" ∧ (parseMethodDescriptor yX11_named.desc).map (fun d => d.parameters.length) = some 5 := by decide +kernel
theorem hvX11_named : yX11_named.cls = RX11 ∧ yX11_named.cls ≠ "java/lang/invoke/MethodHandle" ∧ yX11_named.cls ≠ "java/lang/invoke/VarHandle" ∧ (parseMethodDescriptor yX11_named.desc).map (fun d => d.parameters.length) = some 5 := ⟨rfl, hsX11_named⟩
abbrev rmX11_wordOf : Room := { frames := 2, cells := 0, slots := 0, locals := 46 }
set_option maxHeartbeats 4000000 in
set_option maxRecDepth 100000 in
theorem c_X11_wordOf (l : Launch) (D : va_G) (cI cZ : ClassId) (z : jZT) (v : Int) (hv : 0 ≤ v ∧ v < 281474976710656) : jRd l yX11_wordOf wsX11_wordOf rmX11_wordOf [.long (lI (v))] D cI cZ z [] (some (.int (iI (wOf v)))) := by
  refine jRd_of (cc := cX11_wordOf) (n := 3) (ret := (some .int)) (by decide) rfl (Nat.le_of_ble_eq_true rfl) ?_
  intro p e s m below meth c A ls args Q hQ F hA hZ hP hK hD hS hl
  obtain ⟨hx, hb, hr, hml, hown, hts, hlocks⟩ := F
  have hown : s.vm.findClass RX11 = some m.cls := hown
  have hl : lv_has ls 3 [(0, .long (lI (v)))] := hl
  have hA1 := adF_1
  have hA2 := adF_2
  have hA3 := adF_3
  have hA4 := adF_4
  have hA5 := adF_5
  have hA6 := adF_6
  have cut_66 : ∀ (fst : Int), (fst = if v = 499850046565 then 0 else if v = 1752132709 then 1 else if v = 1651470187 then 2 else -9) → ∀ ls : Array Slot, lv_has ls 3 [(0, .long (lI (v)))] → W p l e rmX11_wordOf s m args below meth c s.heap [] 0 0 Q (F0 m 66 ls [.int (iI (fst))]) := by
    intro fst hI_66 ls hl
    have hfst := hI_66
    refine lv_istore_n (lv' := [(2, .int (iI (fst))), (0, .long (lI (v)))]) hx hb dX11_wordOf_66 rfl hl (by decide) rfl (fun ls hl => ?_)
    refine lv_iload_n hx hb dX11_wordOf_67 rfl (lv_at hl 0 rfl) ?_
    refine lv_bipush (v := iI (-9)) hx hb dX11_wordOf_68 (by decide) ?_
    refine j_icmp_eq (tgt := 77) hx hb (by omega) dX11_wordOf_70 (by decide) (fun c_70 => ?_) (fun c_70 => ?_)
    · refine lv_lload_n hx hb dX11_wordOf_77 rfl (lv_at hl 1 rfl) ?_
      refine lv_bipush (v := iI (98)) hx hb dX11_wordOf_78 (by decide) ?_
      refine lv_bipush (v := iI (101)) hx hb dX11_wordOf_80 (by decide) ?_
      refine lv_bipush (v := iI (108)) hx hb dX11_wordOf_82 (by decide) ?_
      refine lv_bipush (v := iI (108)) hx hb dX11_wordOf_84 (by decide) ?_
      refine lv_iconst (v := iI (0)) hx hb dX11_wordOf_86 rfl ?_
      refine j_rd (va_runS (As := [.int (iI (98)), .int (iI (101)), .int (iI (108)), .int (iI (108)), .int (iI (0))]) (rest := [.long (lI (v))]) ⟨hx, hb, hml, hown, hts⟩ (c_X11_named l D cI cZ z 98 101 108 108 0 (by first | assumption | omega) (by first | assumption | omega) (by first | assumption | omega) (by first | assumption | omega) (by first | assumption | omega) s.heap.size) (va_cwS 5 hts gX11_wordOf_X11_named rfl rfl rfl hsX11_named ⟨Nat.le_of_ble_eq_true rfl, Nat.le_of_ble_eq_true rfl⟩) (j_preS hP hD hK hS hZ hA [] rfl rfl) rfl rfl hl.1 rfl (lv_room (Nat.le_of_ble_eq_true rfl)) dX11_wordOf_87 ⟨Nat.zero_le _, Nat.zero_le _⟩) ?_
      refine j_lcmp hx hb (by omega) dX11_wordOf_90 ?_
      refine j_if_ne (tgt := 98) hx hb (by omega) dX11_wordOf_91 (by decide) (fun c_91 => ?_) (fun c_91 => ?_)
      · refine lv_lload_n hx hb dX11_wordOf_98 rfl (lv_at hl 1 rfl) ?_
        refine lv_bipush (v := iI (116)) hx hb dX11_wordOf_99 (by decide) ?_
        refine lv_bipush (v := iI (111)) hx hb dX11_wordOf_101 (by decide) ?_
        refine lv_bipush (v := iI (121)) hx hb dX11_wordOf_103 (by decide) ?_
        refine lv_iconst (v := iI (0)) hx hb dX11_wordOf_105 rfl ?_
        refine lv_iconst (v := iI (0)) hx hb dX11_wordOf_106 rfl ?_
        refine j_rd (va_runS (As := [.int (iI (116)), .int (iI (111)), .int (iI (121)), .int (iI (0)), .int (iI (0))]) (rest := [.long (lI (v))]) ⟨hx, hb, hml, hown, hts⟩ (c_X11_named l D cI cZ z 116 111 121 0 0 (by first | assumption | omega) (by first | assumption | omega) (by first | assumption | omega) (by first | assumption | omega) (by first | assumption | omega) s.heap.size) (va_cwS 5 hts gX11_wordOf_X11_named rfl rfl rfl hsX11_named ⟨Nat.le_of_ble_eq_true rfl, Nat.le_of_ble_eq_true rfl⟩) (j_preS hP hD hK hS hZ hA [] rfl rfl) rfl rfl hl.1 rfl (lv_room (Nat.le_of_ble_eq_true rfl)) dX11_wordOf_107 ⟨Nat.zero_le _, Nat.zero_le _⟩) ?_
        refine j_lcmp hx hb (by omega) dX11_wordOf_110 ?_
        refine j_if_ne (tgt := 118) hx hb (by omega) dX11_wordOf_111 (by decide) (fun c_111 => ?_) (fun c_111 => ?_)
        · refine lv_lload_n hx hb dX11_wordOf_118 rfl (lv_at hl 1 rfl) ?_
          refine lv_bipush (v := iI (115)) hx hb dX11_wordOf_119 (by decide) ?_
          refine lv_bipush (v := iI (116)) hx hb dX11_wordOf_121 (by decide) ?_
          refine lv_bipush (v := iI (97)) hx hb dX11_wordOf_123 (by decide) ?_
          refine lv_bipush (v := iI (114)) hx hb dX11_wordOf_125 (by decide) ?_
          refine lv_bipush (v := iI (116)) hx hb dX11_wordOf_127 (by decide) ?_
          refine j_rd (va_runS (As := [.int (iI (115)), .int (iI (116)), .int (iI (97)), .int (iI (114)), .int (iI (116))]) (rest := [.long (lI (v))]) ⟨hx, hb, hml, hown, hts⟩ (c_X11_named l D cI cZ z 115 116 97 114 116 (by first | assumption | omega) (by first | assumption | omega) (by first | assumption | omega) (by first | assumption | omega) (by first | assumption | omega) s.heap.size) (va_cwS 5 hts gX11_wordOf_X11_named rfl rfl rfl hsX11_named ⟨Nat.le_of_ble_eq_true rfl, Nat.le_of_ble_eq_true rfl⟩) (j_preS hP hD hK hS hZ hA [] rfl rfl) rfl rfl hl.1 rfl (lv_room (Nat.le_of_ble_eq_true rfl)) dX11_wordOf_129 ⟨Nat.zero_le _, Nat.zero_le _⟩) ?_
          refine j_lcmp hx hb (by omega) dX11_wordOf_132 ?_
          refine j_if_ne (tgt := 140) hx hb (by omega) dX11_wordOf_133 (by decide) (fun c_133 => ?_) (fun c_133 => ?_)
          · refine lv_bipush (v := iI (-9)) hx hb dX11_wordOf_140 (by decide) ?_
            rw [hQ]; exact jr_iret hx hb hr hlocks (jo_i (by unfold wOf; omega)) dX11_wordOf_142
          · refine lv_iconst (v := iI (5)) hx hb dX11_wordOf_136 rfl ?_
            refine lv_goto (tgt := 142) hx hb dX11_wordOf_137 (by decide) ?_
            rw [hQ]; exact jr_iret hx hb hr hlocks (jo_i (by unfold wOf; omega)) dX11_wordOf_142
        · refine lv_iconst (v := iI (4)) hx hb dX11_wordOf_114 rfl ?_
          refine lv_goto (tgt := 142) hx hb dX11_wordOf_115 (by decide) ?_
          rw [hQ]; exact jr_iret hx hb hr hlocks (jo_i (by unfold wOf; omega)) dX11_wordOf_142
      · refine lv_iconst (v := iI (3)) hx hb dX11_wordOf_94 rfl ?_
        refine lv_goto (tgt := 142) hx hb dX11_wordOf_95 (by decide) ?_
        rw [hQ]; exact jr_iret hx hb hr hlocks (jo_i (by unfold wOf; omega)) dX11_wordOf_142
    · refine lv_iload_n hx hb dX11_wordOf_73 rfl (lv_at hl 0 rfl) ?_
      refine lv_goto (tgt := 142) hx hb dX11_wordOf_74 (by decide) ?_
      rw [hQ]; exact jr_iret hx hb hr hlocks (jo_i (by unfold wOf; omega)) dX11_wordOf_142
  refine lv_lload_n hx hb dX11_wordOf_0 rfl (lv_at hl 0 rfl) ?_
  refine lv_bipush (v := iI (116)) hx hb dX11_wordOf_1 (by decide) ?_
  refine lv_bipush (v := iI (97)) hx hb dX11_wordOf_3 (by decide) ?_
  refine lv_bipush (v := iI (98)) hx hb dX11_wordOf_5 (by decide) ?_
  refine lv_bipush (v := iI (108)) hx hb dX11_wordOf_7 (by decide) ?_
  refine lv_bipush (v := iI (101)) hx hb dX11_wordOf_9 (by decide) ?_
  refine j_rd (va_runS (As := [.int (iI (116)), .int (iI (97)), .int (iI (98)), .int (iI (108)), .int (iI (101))]) (rest := [.long (lI (v))]) ⟨hx, hb, hml, hown, hts⟩ (c_X11_named l D cI cZ z 116 97 98 108 101 (by first | assumption | omega) (by first | assumption | omega) (by first | assumption | omega) (by first | assumption | omega) (by first | assumption | omega) s.heap.size) (va_cwS 5 hts gX11_wordOf_X11_named rfl rfl rfl hsX11_named ⟨Nat.le_of_ble_eq_true rfl, Nat.le_of_ble_eq_true rfl⟩) (j_preS hP hD hK hS hZ hA [] rfl rfl) rfl rfl hl.1 rfl (lv_room (Nat.le_of_ble_eq_true rfl)) dX11_wordOf_11 ⟨Nat.zero_le _, Nat.zero_le _⟩) ?_
  refine j_lcmp hx hb (by omega) dX11_wordOf_14 ?_
  refine j_if_ne (tgt := 22) hx hb (by omega) dX11_wordOf_15 (by decide) (fun c_15 => ?_) (fun c_15 => ?_)
  · refine lv_lload_n hx hb dX11_wordOf_22 rfl (lv_at hl 0 rfl) ?_
    refine lv_bipush (v := iI (104)) hx hb dX11_wordOf_23 (by decide) ?_
    refine lv_bipush (v := iI (111)) hx hb dX11_wordOf_25 (by decide) ?_
    refine lv_bipush (v := iI (108)) hx hb dX11_wordOf_27 (by decide) ?_
    refine lv_bipush (v := iI (101)) hx hb dX11_wordOf_29 (by decide) ?_
    refine lv_iconst (v := iI (0)) hx hb dX11_wordOf_31 rfl ?_
    refine j_rd (va_runS (As := [.int (iI (104)), .int (iI (111)), .int (iI (108)), .int (iI (101)), .int (iI (0))]) (rest := [.long (lI (v))]) ⟨hx, hb, hml, hown, hts⟩ (c_X11_named l D cI cZ z 104 111 108 101 0 (by first | assumption | omega) (by first | assumption | omega) (by first | assumption | omega) (by first | assumption | omega) (by first | assumption | omega) s.heap.size) (va_cwS 5 hts gX11_wordOf_X11_named rfl rfl rfl hsX11_named ⟨Nat.le_of_ble_eq_true rfl, Nat.le_of_ble_eq_true rfl⟩) (j_preS hP hD hK hS hZ hA [] rfl rfl) rfl rfl hl.1 rfl (lv_room (Nat.le_of_ble_eq_true rfl)) dX11_wordOf_32 ⟨Nat.zero_le _, Nat.zero_le _⟩) ?_
    refine j_lcmp hx hb (by omega) dX11_wordOf_35 ?_
    refine j_if_ne (tgt := 43) hx hb (by omega) dX11_wordOf_36 (by decide) (fun c_36 => ?_) (fun c_36 => ?_)
    · refine lv_lload_n hx hb dX11_wordOf_43 rfl (lv_at hl 0 rfl) ?_
      refine lv_bipush (v := iI (98)) hx hb dX11_wordOf_44 (by decide) ?_
      refine lv_bipush (v := iI (111)) hx hb dX11_wordOf_46 (by decide) ?_
      refine lv_bipush (v := iI (111)) hx hb dX11_wordOf_48 (by decide) ?_
      refine lv_bipush (v := iI (107)) hx hb dX11_wordOf_50 (by decide) ?_
      refine lv_iconst (v := iI (0)) hx hb dX11_wordOf_52 rfl ?_
      refine j_rd (va_runS (As := [.int (iI (98)), .int (iI (111)), .int (iI (111)), .int (iI (107)), .int (iI (0))]) (rest := [.long (lI (v))]) ⟨hx, hb, hml, hown, hts⟩ (c_X11_named l D cI cZ z 98 111 111 107 0 (by first | assumption | omega) (by first | assumption | omega) (by first | assumption | omega) (by first | assumption | omega) (by first | assumption | omega) s.heap.size) (va_cwS 5 hts gX11_wordOf_X11_named rfl rfl rfl hsX11_named ⟨Nat.le_of_ble_eq_true rfl, Nat.le_of_ble_eq_true rfl⟩) (j_preS hP hD hK hS hZ hA [] rfl rfl) rfl rfl hl.1 rfl (lv_room (Nat.le_of_ble_eq_true rfl)) dX11_wordOf_53 ⟨Nat.zero_le _, Nat.zero_le _⟩) ?_
      refine j_lcmp hx hb (by omega) dX11_wordOf_56 ?_
      obtain ⟨t_1, et_1⟩ : ∃ t : Int, t = if ¬ (if (adF (adF (adF (adF (adF 0 98) 111) 111) 107) 0) < v then (1 : Int) else if v = (adF (adF (adF (adF (adF 0 98) 111) 111) 107) 0) then 0 else -1) = 0 then (-9) else 2 := ⟨_, rfl⟩
      have kt_1 : W p l e rmX11_wordOf s m args below meth c s.heap [] 0 0 Q (F0 m 66 ls [.int (iI (t_1))]) := by
        exact cut_66 t_1 (by omega) ls (lv_sub hl [0] rfl)
      refine j_if_ne (tgt := 64) hx hb (by omega) dX11_wordOf_57 (by decide) (fun q_2 => ?_) (fun q_2 => ?_)
      · refine lv_bipush (v := iI (-9)) hx hb dX11_wordOf_64 (by decide) ?_
        (have q9 := kt_1; rw [et_1, if_pos q_2] at q9; exact q9)
      · refine lv_iconst (v := iI (2)) hx hb dX11_wordOf_60 rfl ?_
        refine lv_goto (tgt := 66) hx hb dX11_wordOf_61 (by decide) ?_
        (have q9 := kt_1; rw [et_1, if_neg (fun q => q q_2)] at q9; exact q9)
    · refine lv_iconst (v := iI (1)) hx hb dX11_wordOf_39 rfl ?_
      refine lv_goto (tgt := 66) hx hb dX11_wordOf_40 (by decide) ?_
      exact cut_66 1 (by omega) ls (lv_sub hl [0] rfl)
  · refine lv_iconst (v := iI (0)) hx hb dX11_wordOf_18 rfl ?_
    refine lv_goto (tgt := 66) hx hb dX11_wordOf_19 (by decide) ?_
    exact cut_66 0 (by omega) ls (lv_sub hl [0] rfl)
