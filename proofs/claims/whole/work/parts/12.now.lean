abbrev rmX4_stand : Room := { frames := 0, cells := 0, slots := 0, locals := 0 }
set_option maxHeartbeats 4000000 in
set_option maxRecDepth 100000 in
theorem c_X4_stand (l : Launch) (D : va_G) (cI cZ : ClassId) (z : jZT) (h0 : Nat) (k d nk nd nb nsp nst nmo ntu nri nla nro : Int) : jMu (S := Unit) l yX4_stand wsX4_stand rmX4_stand [.ref h0, .int (iI (k)), .int (iI (d))] D cI cZ z [(h0, .inr (4, [.int (iI (nk)), .int (iI (nd)), .int (iI (nb)), .int (iI (nsp)), .int (iI (nst)), .int (iI (nmo)), .int (iI (ntu)), .int (iI (nri)), .int (iI (nla)), .int (iI (nro))]))] (fun u => none) (fun u => True) (fun u => [(h0, .inr (4, [.int (iI (k)), .int (iI (d)), .int (iI (0)), .int (iI (nsp)), .int (iI (nst)), .int (iI (nmo)), .int (iI (ntu)), .int (iI (nri)), .int (iI (nla)), .int (iI (0))]))]) := by
  refine jMu_of (cc := cX4_stand) (n := 3) (ret := none) (by decide) rfl (Nat.le_of_ble_eq_true rfl) ?_
  intro p e s m below meth c A ls args Q hQ F hA hZ hP hK hD hS hl
  obtain ⟨hx, hb, hr, hml, hown, hts, hlocks⟩ := F
  have hown : s.vm.findClass RX4 = some m.cls := hown
  have hl : lv_has ls 3 [(0, .ref h0), (1, .int (iI (k))), (2, .int (iI (d)))] := hl
  have L43 := hts (.fieldLink RX4 43 "TinMouse$Now" "cell" "I") (by decide +kernel)
  have L46 := hts (.fieldLink RX4 46 "TinMouse$Now" "direction" "I") (by decide +kernel)
  have L49 := hts (.fieldLink RX4 49 "TinMouse$Now" "bent" "I") (by decide +kernel)
  have L52 := hts (.fieldLink RX4 52 "TinMouse$Now" "row" "I") (by decide +kernel)
  have UX4 : ∀ w ∈ wsX40, w ∈ wsX4_stand := fun w h => List.mem_cons_of_mem _ (List.mem_append_right _ h)
  refine lv_aload_n hx hb dX4_stand_0 rfl (lv_at hl 0 rfl) ?_
  refine lv_iload_n hx hb dX4_stand_1 rfl (lv_at hl 1 rfl) ?_
  refine va_put (D := D) (ci := 4) (v := .int (iI (k))) (ty := .int) (C := RX4) (T := TX4) (N := 10) hx hb hts UX4 tyX4 tyX4_ok nmX4 hown hK hP hD hS 0 rfl rfl 0 (by decide) L43 (fun _ h9 => h9) rfl rfl rfl rfl (Nat.le_of_ble_eq_true rfl) dX4_stand_2 (fun H locs hP hD hS => ?_)
  have hP : va_P D vwCl [(h0, .inr (4, [.int (iI (k)), .int (iI (nd)), .int (iI (nb)), .int (iI (nsp)), .int (iI (nst)), .int (iI (nmo)), .int (iI (ntu)), .int (iI (nri)), .int (iI (nla)), .int (iI (nro))]))] H := hP
  have hD : va_D A [(h0, .inr (4, [.int (iI (k)), .int (iI (nd)), .int (iI (nb)), .int (iI (nsp)), .int (iI (nst)), .int (iI (nmo)), .int (iI (ntu)), .int (iI (nri)), .int (iI (nla)), .int (iI (nro))]))] := hD
  refine lv_aload_n hx hb dX4_stand_5 rfl (lv_at hl 0 rfl) ?_
  refine lv_iload_n hx hb dX4_stand_6 rfl (lv_at hl 2 rfl) ?_
  refine va_put (D := D) (ci := 4) (v := .int (iI (d))) (ty := .int) (C := RX4) (T := TX4) (N := 10) hx hb hts UX4 tyX4 tyX4_ok nmX4 hown hK hP hD hS 0 rfl rfl 1 (by decide) L46 (fun _ h9 => h9) rfl rfl rfl rfl (Nat.le_of_ble_eq_true rfl) dX4_stand_7 (fun H locs hP hD hS => ?_)
  have hP : va_P D vwCl [(h0, .inr (4, [.int (iI (k)), .int (iI (d)), .int (iI (nb)), .int (iI (nsp)), .int (iI (nst)), .int (iI (nmo)), .int (iI (ntu)), .int (iI (nri)), .int (iI (nla)), .int (iI (nro))]))] H := hP
  have hD : va_D A [(h0, .inr (4, [.int (iI (k)), .int (iI (d)), .int (iI (nb)), .int (iI (nsp)), .int (iI (nst)), .int (iI (nmo)), .int (iI (ntu)), .int (iI (nri)), .int (iI (nla)), .int (iI (nro))]))] := hD
  refine lv_aload_n hx hb dX4_stand_10 rfl (lv_at hl 0 rfl) ?_
  refine lv_iconst (v := iI (0)) hx hb dX4_stand_11 rfl ?_
  refine va_put (D := D) (ci := 4) (v := .int (iI (0))) (ty := .int) (C := RX4) (T := TX4) (N := 10) hx hb hts UX4 tyX4 tyX4_ok nmX4 hown hK hP hD hS 0 rfl rfl 2 (by decide) L49 (fun _ h9 => h9) rfl rfl rfl rfl (Nat.le_of_ble_eq_true rfl) dX4_stand_12 (fun H locs hP hD hS => ?_)
  have hP : va_P D vwCl [(h0, .inr (4, [.int (iI (k)), .int (iI (d)), .int (iI (0)), .int (iI (nsp)), .int (iI (nst)), .int (iI (nmo)), .int (iI (ntu)), .int (iI (nri)), .int (iI (nla)), .int (iI (nro))]))] H := hP
  have hD : va_D A [(h0, .inr (4, [.int (iI (k)), .int (iI (d)), .int (iI (0)), .int (iI (nsp)), .int (iI (nst)), .int (iI (nmo)), .int (iI (ntu)), .int (iI (nri)), .int (iI (nla)), .int (iI (nro))]))] := hD
  refine lv_aload_n hx hb dX4_stand_15 rfl (lv_at hl 0 rfl) ?_
  refine lv_iconst (v := iI (0)) hx hb dX4_stand_16 rfl ?_
  refine va_put (D := D) (ci := 4) (v := .int (iI (0))) (ty := .int) (C := RX4) (T := TX4) (N := 10) hx hb hts UX4 tyX4 tyX4_ok nmX4 hown hK hP hD hS 0 rfl rfl 9 (by decide) L52 (fun _ h9 => h9) rfl rfl rfl rfl (Nat.le_of_ble_eq_true rfl) dX4_stand_17 (fun H locs hP hD hS => ?_)
  have hP : va_P D vwCl [(h0, .inr (4, [.int (iI (k)), .int (iI (d)), .int (iI (0)), .int (iI (nsp)), .int (iI (nst)), .int (iI (nmo)), .int (iI (ntu)), .int (iI (nri)), .int (iI (nla)), .int (iI (0))]))] H := hP
  have hD : va_D A [(h0, .inr (4, [.int (iI (k)), .int (iI (d)), .int (iI (0)), .int (iI (nsp)), .int (iI (nst)), .int (iI (nmo)), .int (iI (ntu)), .int (iI (nri)), .int (iI (nla)), .int (iI (0))]))] := hD
  rw [hQ]; exact jm_vret () hx hb hr hlocks hS hP rfl trivial dX4_stand_20
theorem hsX4_stand : yX4_stand.cls ≠ "java/lang/invoke/MethodHandle" ∧ yX4_stand.cls ≠ "java/lang/invoke/VarHandle" ∧ (parseMethodDescriptor yX4_stand.desc).map (fun d => d.parameters.length) = some 2 := by decide +kernel
theorem hvX4_stand : yX4_stand.cls = RX4 ∧ yX4_stand.cls ≠ "java/lang/invoke/MethodHandle" ∧ yX4_stand.cls ≠ "java/lang/invoke/VarHandle" ∧ (parseMethodDescriptor yX4_stand.desc).map (fun d => d.parameters.length) = some 2 := ⟨rfl, hsX4_stand⟩
abbrev rmX4_begin : Room := { frames := 1, cells := 0, slots := 0, locals := 22 }
set_option maxHeartbeats 4000000 in
set_option maxRecDepth 100000 in
theorem c_X4_begin (l : Launch) (D : va_G) (cI cZ : ClassId) (z : jZT) (h0 h1 h2 : Nat) (nk nd nb nsp nst nmo ntu nri nla nro Wi Hi bl sc sd no tu be sp : Int) (g : Int → Int) : jMu (S := Unit) l yX4_begin wsX4_begin rmX4_begin [.ref h0, .ref h1] D cI cZ z [(h0, .inr (4, [.int (iI (nk)), .int (iI (nd)), .int (iI (nb)), .int (iI (nsp)), .int (iI (nst)), .int (iI (nmo)), .int (iI (ntu)), .int (iI (nri)), .int (iI (nla)), .int (iI (nro))])), (h1, .inr (7, [.ref h2, .int (iI (Wi)), .int (iI (Hi)), .int (iI (bl)), .int (iI (sc)), .int (iI (sd)), .int (iI (no)), .int (iI (tu)), .int (iI (be)), .int (iI (sp))])), (h2, .inl (cI, 256, .inl (aI g)))] (fun u => none) (fun u => True) (fun u => [(h0, .inr (4, [.int (iI (sc)), .int (iI (sd)), .int (iI (0)), .int (iI (sp)), .int (iI (0)), .int (iI (0)), .int (iI (0)), .int (iI (0)), .int (iI (-9)), .int (iI (0))])), (h1, .inr (7, [.ref h2, .int (iI (Wi)), .int (iI (Hi)), .int (iI (bl)), .int (iI (sc)), .int (iI (sd)), .int (iI (no)), .int (iI (tu)), .int (iI (be)), .int (iI (sp))])), (h2, .inl (cI, 256, .inl (aI g)))]) := by
  refine jMu_of (cc := cX4_begin) (n := 2) (ret := none) (by decide) rfl (Nat.le_of_ble_eq_true rfl) ?_
  intro p e s m below meth c A ls args Q hQ F hA hZ hP hK hD hS hl
  obtain ⟨hx, hb, hr, hml, hown, hts, hlocks⟩ := F
  have hown : s.vm.findClass RX4 = some m.cls := hown
  have hl : lv_has ls 2 [(0, .ref h0), (1, .ref h1)] := hl
  have L9 := hts (.fieldLink RX4 9 "TinMouse$Table" "startCell" "I") (by decide +kernel)
  have L15 := hts (.fieldLink RX4 15 "TinMouse$Table" "startDirection" "I") (by decide +kernel)
  have L24 := hts (.fieldLink RX4 24 "TinMouse$Table" "spring" "I") (by decide +kernel)
  have L27 := hts (.fieldLink RX4 27 "TinMouse$Now" "spring" "I") (by decide +kernel)
  have L28 := hts (.fieldLink RX4 28 "TinMouse$Now" "steps" "I") (by decide +kernel)
  have L31 := hts (.fieldLink RX4 31 "TinMouse$Now" "moves" "I") (by decide +kernel)
  have L34 := hts (.fieldLink RX4 34 "TinMouse$Now" "turns" "I") (by decide +kernel)
  have L37 := hts (.fieldLink RX4 37 "TinMouse$Now" "rings" "I") (by decide +kernel)
  have L40 := hts (.fieldLink RX4 40 "TinMouse$Now" "latest" "I") (by decide +kernel)
  have UX4 : ∀ w ∈ wsX40, w ∈ wsX4_begin := fun w h => List.mem_cons_of_mem _ (List.mem_append_right _ h)
  have UX7 : ∀ w ∈ wsX70, w ∈ wsX4_begin := fun w h => List.mem_cons_of_mem _ (List.mem_append_left _ (List.mem_append_right _ h))
  refine lv_aload_n hx hb dX4_begin_0 rfl (lv_at hl 0 rfl) ?_
  refine lv_aload_n hx hb dX4_begin_1 rfl (lv_at hl 1 rfl) ?_
  refine va_get (D := D) (ci := 7) (v := .int (iI (sc))) (C := RX7) (T := TX7) (N := 10) hx hb hts UX7 hown hK hP 1 rfl rfl 4 (by decide) L9 (fun _ h9 => h9) rfl dX4_begin_2 ?_
  refine lv_aload_n hx hb dX4_begin_5 rfl (lv_at hl 1 rfl) ?_
  refine va_get (D := D) (ci := 7) (v := .int (iI (sd))) (C := RX7) (T := TX7) (N := 10) hx hb hts UX7 hown hK hP 1 rfl rfl 5 (by decide) L15 (fun _ h9 => h9) rfl dX4_begin_6 ?_
  refine j_muv (va_runV (As := [.int (iI (sc)), .int (iI (sd))]) (rest := []) ⟨hx, hb, hml, hown, hts⟩ (c_X4_stand l D cI cZ z h0 sc sd nk nd nb nsp nst nmo ntu nri nla nro  s.heap.size) (cwV 2 hts gX4_begin_X4_stand rfl rfl rfl hvX4_stand ⟨Nat.le_of_ble_eq_true rfl, Nat.le_of_ble_eq_true rfl⟩) (j_preV hP hD hK hS hZ hA [0] rfl rfl 0 rfl rfl) rfl rfl hl.1 rfl (lv_room (Nat.le_of_ble_eq_true rfl)) dX4_begin_9 ⟨Nat.zero_le _, Nat.zero_le _⟩) hP hD hS hA [0] rfl (fun _ => rfl) (fun _ H locs hw_9 hP hD hS => ?_)
  have hP : va_P D vwCl [(h0, .inr (4, [.int (iI (sc)), .int (iI (sd)), .int (iI (0)), .int (iI (nsp)), .int (iI (nst)), .int (iI (nmo)), .int (iI (ntu)), .int (iI (nri)), .int (iI (nla)), .int (iI (0))])), (h1, .inr (7, [.ref h2, .int (iI (Wi)), .int (iI (Hi)), .int (iI (bl)), .int (iI (sc)), .int (iI (sd)), .int (iI (no)), .int (iI (tu)), .int (iI (be)), .int (iI (sp))])), (h2, .inl (cI, 256, .inl (aI g)))] H := hP
  have hD : va_D A [(h0, .inr (4, [.int (iI (sc)), .int (iI (sd)), .int (iI (0)), .int (iI (nsp)), .int (iI (nst)), .int (iI (nmo)), .int (iI (ntu)), .int (iI (nri)), .int (iI (nla)), .int (iI (0))])), (h1, .inr (7, [.ref h2, .int (iI (Wi)), .int (iI (Hi)), .int (iI (bl)), .int (iI (sc)), .int (iI (sd)), .int (iI (no)), .int (iI (tu)), .int (iI (be)), .int (iI (sp))])), (h2, .inl (cI, 256, .inl (aI g)))] := hD
  refine lv_aload_n hx hb dX4_begin_12 rfl (lv_at hl 0 rfl) ?_
  refine lv_aload_n hx hb dX4_begin_13 rfl (lv_at hl 1 rfl) ?_
  refine va_get (D := D) (ci := 7) (v := .int (iI (sp))) (C := RX7) (T := TX7) (N := 10) hx hb hts UX7 hown hK hP 1 rfl rfl 9 (by decide) L24 (fun _ h9 => h9) rfl dX4_begin_14 ?_
  refine va_put (D := D) (ci := 4) (v := .int (iI (sp))) (ty := .int) (C := RX4) (T := TX4) (N := 10) hx hb hts UX4 tyX4 tyX4_ok nmX4 hown hK hP hD hS 0 rfl rfl 3 (by decide) L27 (fun _ h9 => h9) rfl rfl rfl rfl (Nat.le_of_ble_eq_true rfl) dX4_begin_17 (fun H locs hP hD hS => ?_)
  have hP : va_P D vwCl [(h0, .inr (4, [.int (iI (sc)), .int (iI (sd)), .int (iI (0)), .int (iI (sp)), .int (iI (nst)), .int (iI (nmo)), .int (iI (ntu)), .int (iI (nri)), .int (iI (nla)), .int (iI (0))])), (h1, .inr (7, [.ref h2, .int (iI (Wi)), .int (iI (Hi)), .int (iI (bl)), .int (iI (sc)), .int (iI (sd)), .int (iI (no)), .int (iI (tu)), .int (iI (be)), .int (iI (sp))])), (h2, .inl (cI, 256, .inl (aI g)))] H := hP
  have hD : va_D A [(h0, .inr (4, [.int (iI (sc)), .int (iI (sd)), .int (iI (0)), .int (iI (sp)), .int (iI (nst)), .int (iI (nmo)), .int (iI (ntu)), .int (iI (nri)), .int (iI (nla)), .int (iI (0))])), (h1, .inr (7, [.ref h2, .int (iI (Wi)), .int (iI (Hi)), .int (iI (bl)), .int (iI (sc)), .int (iI (sd)), .int (iI (no)), .int (iI (tu)), .int (iI (be)), .int (iI (sp))])), (h2, .inl (cI, 256, .inl (aI g)))] := hD
  refine lv_aload_n hx hb dX4_begin_20 rfl (lv_at hl 0 rfl) ?_
  refine lv_iconst (v := iI (0)) hx hb dX4_begin_21 rfl ?_
  refine va_put (D := D) (ci := 4) (v := .int (iI (0))) (ty := .int) (C := RX4) (T := TX4) (N := 10) hx hb hts UX4 tyX4 tyX4_ok nmX4 hown hK hP hD hS 0 rfl rfl 4 (by decide) L28 (fun _ h9 => h9) rfl rfl rfl rfl (Nat.le_of_ble_eq_true rfl) dX4_begin_22 (fun H locs hP hD hS => ?_)
  have hP : va_P D vwCl [(h0, .inr (4, [.int (iI (sc)), .int (iI (sd)), .int (iI (0)), .int (iI (sp)), .int (iI (0)), .int (iI (nmo)), .int (iI (ntu)), .int (iI (nri)), .int (iI (nla)), .int (iI (0))])), (h1, .inr (7, [.ref h2, .int (iI (Wi)), .int (iI (Hi)), .int (iI (bl)), .int (iI (sc)), .int (iI (sd)), .int (iI (no)), .int (iI (tu)), .int (iI (be)), .int (iI (sp))])), (h2, .inl (cI, 256, .inl (aI g)))] H := hP
  have hD : va_D A [(h0, .inr (4, [.int (iI (sc)), .int (iI (sd)), .int (iI (0)), .int (iI (sp)), .int (iI (0)), .int (iI (nmo)), .int (iI (ntu)), .int (iI (nri)), .int (iI (nla)), .int (iI (0))])), (h1, .inr (7, [.ref h2, .int (iI (Wi)), .int (iI (Hi)), .int (iI (bl)), .int (iI (sc)), .int (iI (sd)), .int (iI (no)), .int (iI (tu)), .int (iI (be)), .int (iI (sp))])), (h2, .inl (cI, 256, .inl (aI g)))] := hD
  refine lv_aload_n hx hb dX4_begin_25 rfl (lv_at hl 0 rfl) ?_
  refine lv_iconst (v := iI (0)) hx hb dX4_begin_26 rfl ?_
  refine va_put (D := D) (ci := 4) (v := .int (iI (0))) (ty := .int) (C := RX4) (T := TX4) (N := 10) hx hb hts UX4 tyX4 tyX4_ok nmX4 hown hK hP hD hS 0 rfl rfl 5 (by decide) L31 (fun _ h9 => h9) rfl rfl rfl rfl (Nat.le_of_ble_eq_true rfl) dX4_begin_27 (fun H locs hP hD hS => ?_)
  have hP : va_P D vwCl [(h0, .inr (4, [.int (iI (sc)), .int (iI (sd)), .int (iI (0)), .int (iI (sp)), .int (iI (0)), .int (iI (0)), .int (iI (ntu)), .int (iI (nri)), .int (iI (nla)), .int (iI (0))])), (h1, .inr (7, [.ref h2, .int (iI (Wi)), .int (iI (Hi)), .int (iI (bl)), .int (iI (sc)), .int (iI (sd)), .int (iI (no)), .int (iI (tu)), .int (iI (be)), .int (iI (sp))])), (h2, .inl (cI, 256, .inl (aI g)))] H := hP
  have hD : va_D A [(h0, .inr (4, [.int (iI (sc)), .int (iI (sd)), .int (iI (0)), .int (iI (sp)), .int (iI (0)), .int (iI (0)), .int (iI (ntu)), .int (iI (nri)), .int (iI (nla)), .int (iI (0))])), (h1, .inr (7, [.ref h2, .int (iI (Wi)), .int (iI (Hi)), .int (iI (bl)), .int (iI (sc)), .int (iI (sd)), .int (iI (no)), .int (iI (tu)), .int (iI (be)), .int (iI (sp))])), (h2, .inl (cI, 256, .inl (aI g)))] := hD
  refine lv_aload_n hx hb dX4_begin_30 rfl (lv_at hl 0 rfl) ?_
  refine lv_iconst (v := iI (0)) hx hb dX4_begin_31 rfl ?_
  refine va_put (D := D) (ci := 4) (v := .int (iI (0))) (ty := .int) (C := RX4) (T := TX4) (N := 10) hx hb hts UX4 tyX4 tyX4_ok nmX4 hown hK hP hD hS 0 rfl rfl 6 (by decide) L34 (fun _ h9 => h9) rfl rfl rfl rfl (Nat.le_of_ble_eq_true rfl) dX4_begin_32 (fun H locs hP hD hS => ?_)
  have hP : va_P D vwCl [(h0, .inr (4, [.int (iI (sc)), .int (iI (sd)), .int (iI (0)), .int (iI (sp)), .int (iI (0)), .int (iI (0)), .int (iI (0)), .int (iI (nri)), .int (iI (nla)), .int (iI (0))])), (h1, .inr (7, [.ref h2, .int (iI (Wi)), .int (iI (Hi)), .int (iI (bl)), .int (iI (sc)), .int (iI (sd)), .int (iI (no)), .int (iI (tu)), .int (iI (be)), .int (iI (sp))])), (h2, .inl (cI, 256, .inl (aI g)))] H := hP
  have hD : va_D A [(h0, .inr (4, [.int (iI (sc)), .int (iI (sd)), .int (iI (0)), .int (iI (sp)), .int (iI (0)), .int (iI (0)), .int (iI (0)), .int (iI (nri)), .int (iI (nla)), .int (iI (0))])), (h1, .inr (7, [.ref h2, .int (iI (Wi)), .int (iI (Hi)), .int (iI (bl)), .int (iI (sc)), .int (iI (sd)), .int (iI (no)), .int (iI (tu)), .int (iI (be)), .int (iI (sp))])), (h2, .inl (cI, 256, .inl (aI g)))] := hD
  refine lv_aload_n hx hb dX4_begin_35 rfl (lv_at hl 0 rfl) ?_
  refine lv_iconst (v := iI (0)) hx hb dX4_begin_36 rfl ?_
  refine va_put (D := D) (ci := 4) (v := .int (iI (0))) (ty := .int) (C := RX4) (T := TX4) (N := 10) hx hb hts UX4 tyX4 tyX4_ok nmX4 hown hK hP hD hS 0 rfl rfl 7 (by decide) L37 (fun _ h9 => h9) rfl rfl rfl rfl (Nat.le_of_ble_eq_true rfl) dX4_begin_37 (fun H locs hP hD hS => ?_)
  have hP : va_P D vwCl [(h0, .inr (4, [.int (iI (sc)), .int (iI (sd)), .int (iI (0)), .int (iI (sp)), .int (iI (0)), .int (iI (0)), .int (iI (0)), .int (iI (0)), .int (iI (nla)), .int (iI (0))])), (h1, .inr (7, [.ref h2, .int (iI (Wi)), .int (iI (Hi)), .int (iI (bl)), .int (iI (sc)), .int (iI (sd)), .int (iI (no)), .int (iI (tu)), .int (iI (be)), .int (iI (sp))])), (h2, .inl (cI, 256, .inl (aI g)))] H := hP
  have hD : va_D A [(h0, .inr (4, [.int (iI (sc)), .int (iI (sd)), .int (iI (0)), .int (iI (sp)), .int (iI (0)), .int (iI (0)), .int (iI (0)), .int (iI (0)), .int (iI (nla)), .int (iI (0))])), (h1, .inr (7, [.ref h2, .int (iI (Wi)), .int (iI (Hi)), .int (iI (bl)), .int (iI (sc)), .int (iI (sd)), .int (iI (no)), .int (iI (tu)), .int (iI (be)), .int (iI (sp))])), (h2, .inl (cI, 256, .inl (aI g)))] := hD
  refine lv_aload_n hx hb dX4_begin_40 rfl (lv_at hl 0 rfl) ?_
  refine lv_bipush (v := iI (-9)) hx hb dX4_begin_41 (by decide) ?_
  refine va_put (D := D) (ci := 4) (v := .int (iI (-9))) (ty := .int) (C := RX4) (T := TX4) (N := 10) hx hb hts UX4 tyX4 tyX4_ok nmX4 hown hK hP hD hS 0 rfl rfl 8 (by decide) L40 (fun _ h9 => h9) rfl rfl rfl rfl (Nat.le_of_ble_eq_true rfl) dX4_begin_43 (fun H locs hP hD hS => ?_)
  have hP : va_P D vwCl [(h0, .inr (4, [.int (iI (sc)), .int (iI (sd)), .int (iI (0)), .int (iI (sp)), .int (iI (0)), .int (iI (0)), .int (iI (0)), .int (iI (0)), .int (iI (-9)), .int (iI (0))])), (h1, .inr (7, [.ref h2, .int (iI (Wi)), .int (iI (Hi)), .int (iI (bl)), .int (iI (sc)), .int (iI (sd)), .int (iI (no)), .int (iI (tu)), .int (iI (be)), .int (iI (sp))])), (h2, .inl (cI, 256, .inl (aI g)))] H := hP
  have hD : va_D A [(h0, .inr (4, [.int (iI (sc)), .int (iI (sd)), .int (iI (0)), .int (iI (sp)), .int (iI (0)), .int (iI (0)), .int (iI (0)), .int (iI (0)), .int (iI (-9)), .int (iI (0))])), (h1, .inr (7, [.ref h2, .int (iI (Wi)), .int (iI (Hi)), .int (iI (bl)), .int (iI (sc)), .int (iI (sd)), .int (iI (no)), .int (iI (tu)), .int (iI (be)), .int (iI (sp))])), (h2, .inl (cI, 256, .inl (aI g)))] := hD
  rw [hQ]; exact jm_vret () hx hb hr hlocks hS hP rfl trivial dX4_begin_46
abbrev rmX4_copy : Room := { frames := 1, cells := 0, slots := 0, locals := 22 }
set_option maxHeartbeats 4000000 in
set_option maxRecDepth 100000 in
theorem c_X4_copy (l : Launch) (D : va_G) (cI cZ : ClassId) (z : jZT) (h0 h1 : Nat) (nk nd nb nsp nst nmo ntu nri nla nro nk2 nd2 nb2 nsp2 nst2 nmo2 ntu2 nri2 nla2 nro2 : Int) : jMu (S := Unit) l yX4_copy wsX4_copy rmX4_copy [.ref h0, .ref h1] D cI cZ z [(h0, .inr (4, [.int (iI (nk)), .int (iI (nd)), .int (iI (nb)), .int (iI (nsp)), .int (iI (nst)), .int (iI (nmo)), .int (iI (ntu)), .int (iI (nri)), .int (iI (nla)), .int (iI (nro))])), (h1, .inr (4, [.int (iI (nk2)), .int (iI (nd2)), .int (iI (nb2)), .int (iI (nsp2)), .int (iI (nst2)), .int (iI (nmo2)), .int (iI (ntu2)), .int (iI (nri2)), .int (iI (nla2)), .int (iI (nro2))]))] (fun u => none) (fun u => True) (fun u => [(h0, .inr (4, [.int (iI (nk2)), .int (iI (nd2)), .int (iI (nb2)), .int (iI (nsp2)), .int (iI (nst2)), .int (iI (nmo2)), .int (iI (ntu2)), .int (iI (nri2)), .int (iI (nla2)), .int (iI (nro2))])), (h1, .inr (4, [.int (iI (nk2)), .int (iI (nd2)), .int (iI (nb2)), .int (iI (nsp2)), .int (iI (nst2)), .int (iI (nmo2)), .int (iI (ntu2)), .int (iI (nri2)), .int (iI (nla2)), .int (iI (nro2))]))]) := by
  refine jMu_of (cc := cX4_copy) (n := 2) (ret := none) (by decide) rfl (Nat.le_of_ble_eq_true rfl) ?_
  intro p e s m below meth c A ls args Q hQ F hA hZ hP hK hD hS hl
  obtain ⟨hx, hb, hr, hml, hown, hts, hlocks⟩ := F
  have hown : s.vm.findClass RX4 = some m.cls := hown
  have hl : lv_has ls 2 [(0, .ref h0), (1, .ref h1)] := hl
  have L43 := hts (.fieldLink RX4 43 "TinMouse$Now" "cell" "I") (by decide +kernel)
  have L46 := hts (.fieldLink RX4 46 "TinMouse$Now" "direction" "I") (by decide +kernel)
  have L49 := hts (.fieldLink RX4 49 "TinMouse$Now" "bent" "I") (by decide +kernel)
  have L52 := hts (.fieldLink RX4 52 "TinMouse$Now" "row" "I") (by decide +kernel)
  have L27 := hts (.fieldLink RX4 27 "TinMouse$Now" "spring" "I") (by decide +kernel)
  have L28 := hts (.fieldLink RX4 28 "TinMouse$Now" "steps" "I") (by decide +kernel)
  have L31 := hts (.fieldLink RX4 31 "TinMouse$Now" "moves" "I") (by decide +kernel)
  have L34 := hts (.fieldLink RX4 34 "TinMouse$Now" "turns" "I") (by decide +kernel)
  have L37 := hts (.fieldLink RX4 37 "TinMouse$Now" "rings" "I") (by decide +kernel)
  have L40 := hts (.fieldLink RX4 40 "TinMouse$Now" "latest" "I") (by decide +kernel)
  have UX4 : ∀ w ∈ wsX40, w ∈ wsX4_copy := fun w h => List.mem_cons_of_mem _ (List.mem_append_right _ h)
  refine lv_aload_n hx hb dX4_copy_0 rfl (lv_at hl 0 rfl) ?_
  refine lv_aload_n hx hb dX4_copy_1 rfl (lv_at hl 1 rfl) ?_
  refine va_get (D := D) (ci := 4) (v := .int (iI (nk2))) (C := RX4) (T := TX4) (N := 10) hx hb hts UX4 hown hK hP 1 rfl rfl 0 (by decide) L43 (fun _ h9 => h9) rfl dX4_copy_2 ?_
  refine lv_aload_n hx hb dX4_copy_5 rfl (lv_at hl 1 rfl) ?_
  refine va_get (D := D) (ci := 4) (v := .int (iI (nd2))) (C := RX4) (T := TX4) (N := 10) hx hb hts UX4 hown hK hP 1 rfl rfl 1 (by decide) L46 (fun _ h9 => h9) rfl dX4_copy_6 ?_
  refine j_muv (va_runV (As := [.int (iI (nk2)), .int (iI (nd2))]) (rest := []) ⟨hx, hb, hml, hown, hts⟩ (c_X4_stand l D cI cZ z h0 nk2 nd2 nk nd nb nsp nst nmo ntu nri nla nro  s.heap.size) (cwV 2 hts gX4_copy_X4_stand rfl rfl rfl hvX4_stand ⟨Nat.le_of_ble_eq_true rfl, Nat.le_of_ble_eq_true rfl⟩) (j_preV hP hD hK hS hZ hA [0] rfl rfl 0 rfl rfl) rfl rfl hl.1 rfl (lv_room (Nat.le_of_ble_eq_true rfl)) dX4_copy_9 ⟨Nat.zero_le _, Nat.zero_le _⟩) hP hD hS hA [0] rfl (fun _ => rfl) (fun _ H locs hw_9 hP hD hS => ?_)
  have hP : va_P D vwCl [(h0, .inr (4, [.int (iI (nk2)), .int (iI (nd2)), .int (iI (0)), .int (iI (nsp)), .int (iI (nst)), .int (iI (nmo)), .int (iI (ntu)), .int (iI (nri)), .int (iI (nla)), .int (iI (0))])), (h1, .inr (4, [.int (iI (nk2)), .int (iI (nd2)), .int (iI (nb2)), .int (iI (nsp2)), .int (iI (nst2)), .int (iI (nmo2)), .int (iI (ntu2)), .int (iI (nri2)), .int (iI (nla2)), .int (iI (nro2))]))] H := hP
  have hD : va_D A [(h0, .inr (4, [.int (iI (nk2)), .int (iI (nd2)), .int (iI (0)), .int (iI (nsp)), .int (iI (nst)), .int (iI (nmo)), .int (iI (ntu)), .int (iI (nri)), .int (iI (nla)), .int (iI (0))])), (h1, .inr (4, [.int (iI (nk2)), .int (iI (nd2)), .int (iI (nb2)), .int (iI (nsp2)), .int (iI (nst2)), .int (iI (nmo2)), .int (iI (ntu2)), .int (iI (nri2)), .int (iI (nla2)), .int (iI (nro2))]))] := hD
  refine lv_aload_n hx hb dX4_copy_12 rfl (lv_at hl 0 rfl) ?_
  refine lv_aload_n hx hb dX4_copy_13 rfl (lv_at hl 1 rfl) ?_
  refine va_get (D := D) (ci := 4) (v := .int (iI (nb2))) (C := RX4) (T := TX4) (N := 10) hx hb hts UX4 hown hK hP 1 rfl rfl 2 (by decide) L49 (fun _ h9 => h9) rfl dX4_copy_14 ?_
  refine va_put (D := D) (ci := 4) (v := .int (iI (nb2))) (ty := .int) (C := RX4) (T := TX4) (N := 10) hx hb hts UX4 tyX4 tyX4_ok nmX4 hown hK hP hD hS 0 rfl rfl 2 (by decide) L49 (fun _ h9 => h9) rfl rfl rfl rfl (Nat.le_of_ble_eq_true rfl) dX4_copy_17 (fun H locs hP hD hS => ?_)
  have hP : va_P D vwCl [(h0, .inr (4, [.int (iI (nk2)), .int (iI (nd2)), .int (iI (nb2)), .int (iI (nsp)), .int (iI (nst)), .int (iI (nmo)), .int (iI (ntu)), .int (iI (nri)), .int (iI (nla)), .int (iI (0))])), (h1, .inr (4, [.int (iI (nk2)), .int (iI (nd2)), .int (iI (nb2)), .int (iI (nsp2)), .int (iI (nst2)), .int (iI (nmo2)), .int (iI (ntu2)), .int (iI (nri2)), .int (iI (nla2)), .int (iI (nro2))]))] H := hP
  have hD : va_D A [(h0, .inr (4, [.int (iI (nk2)), .int (iI (nd2)), .int (iI (nb2)), .int (iI (nsp)), .int (iI (nst)), .int (iI (nmo)), .int (iI (ntu)), .int (iI (nri)), .int (iI (nla)), .int (iI (0))])), (h1, .inr (4, [.int (iI (nk2)), .int (iI (nd2)), .int (iI (nb2)), .int (iI (nsp2)), .int (iI (nst2)), .int (iI (nmo2)), .int (iI (ntu2)), .int (iI (nri2)), .int (iI (nla2)), .int (iI (nro2))]))] := hD
  refine lv_aload_n hx hb dX4_copy_20 rfl (lv_at hl 0 rfl) ?_
  refine lv_aload_n hx hb dX4_copy_21 rfl (lv_at hl 1 rfl) ?_
  refine va_get (D := D) (ci := 4) (v := .int (iI (nro2))) (C := RX4) (T := TX4) (N := 10) hx hb hts UX4 hown hK hP 1 rfl rfl 9 (by decide) L52 (fun _ h9 => h9) rfl dX4_copy_22 ?_
  refine va_put (D := D) (ci := 4) (v := .int (iI (nro2))) (ty := .int) (C := RX4) (T := TX4) (N := 10) hx hb hts UX4 tyX4 tyX4_ok nmX4 hown hK hP hD hS 0 rfl rfl 9 (by decide) L52 (fun _ h9 => h9) rfl rfl rfl rfl (Nat.le_of_ble_eq_true rfl) dX4_copy_25 (fun H locs hP hD hS => ?_)
  have hP : va_P D vwCl [(h0, .inr (4, [.int (iI (nk2)), .int (iI (nd2)), .int (iI (nb2)), .int (iI (nsp)), .int (iI (nst)), .int (iI (nmo)), .int (iI (ntu)), .int (iI (nri)), .int (iI (nla)), .int (iI (nro2))])), (h1, .inr (4, [.int (iI (nk2)), .int (iI (nd2)), .int (iI (nb2)), .int (iI (nsp2)), .int (iI (nst2)), .int (iI (nmo2)), .int (iI (ntu2)), .int (iI (nri2)), .int (iI (nla2)), .int (iI (nro2))]))] H := hP
  have hD : va_D A [(h0, .inr (4, [.int (iI (nk2)), .int (iI (nd2)), .int (iI (nb2)), .int (iI (nsp)), .int (iI (nst)), .int (iI (nmo)), .int (iI (ntu)), .int (iI (nri)), .int (iI (nla)), .int (iI (nro2))])), (h1, .inr (4, [.int (iI (nk2)), .int (iI (nd2)), .int (iI (nb2)), .int (iI (nsp2)), .int (iI (nst2)), .int (iI (nmo2)), .int (iI (ntu2)), .int (iI (nri2)), .int (iI (nla2)), .int (iI (nro2))]))] := hD
  refine lv_aload_n hx hb dX4_copy_28 rfl (lv_at hl 0 rfl) ?_
  refine lv_aload_n hx hb dX4_copy_29 rfl (lv_at hl 1 rfl) ?_
  refine va_get (D := D) (ci := 4) (v := .int (iI (nsp2))) (C := RX4) (T := TX4) (N := 10) hx hb hts UX4 hown hK hP 1 rfl rfl 3 (by decide) L27 (fun _ h9 => h9) rfl dX4_copy_30 ?_
  refine va_put (D := D) (ci := 4) (v := .int (iI (nsp2))) (ty := .int) (C := RX4) (T := TX4) (N := 10) hx hb hts UX4 tyX4 tyX4_ok nmX4 hown hK hP hD hS 0 rfl rfl 3 (by decide) L27 (fun _ h9 => h9) rfl rfl rfl rfl (Nat.le_of_ble_eq_true rfl) dX4_copy_33 (fun H locs hP hD hS => ?_)
  have hP : va_P D vwCl [(h0, .inr (4, [.int (iI (nk2)), .int (iI (nd2)), .int (iI (nb2)), .int (iI (nsp2)), .int (iI (nst)), .int (iI (nmo)), .int (iI (ntu)), .int (iI (nri)), .int (iI (nla)), .int (iI (nro2))])), (h1, .inr (4, [.int (iI (nk2)), .int (iI (nd2)), .int (iI (nb2)), .int (iI (nsp2)), .int (iI (nst2)), .int (iI (nmo2)), .int (iI (ntu2)), .int (iI (nri2)), .int (iI (nla2)), .int (iI (nro2))]))] H := hP
  have hD : va_D A [(h0, .inr (4, [.int (iI (nk2)), .int (iI (nd2)), .int (iI (nb2)), .int (iI (nsp2)), .int (iI (nst)), .int (iI (nmo)), .int (iI (ntu)), .int (iI (nri)), .int (iI (nla)), .int (iI (nro2))])), (h1, .inr (4, [.int (iI (nk2)), .int (iI (nd2)), .int (iI (nb2)), .int (iI (nsp2)), .int (iI (nst2)), .int (iI (nmo2)), .int (iI (ntu2)), .int (iI (nri2)), .int (iI (nla2)), .int (iI (nro2))]))] := hD
  refine lv_aload_n hx hb dX4_copy_36 rfl (lv_at hl 0 rfl) ?_
  refine lv_aload_n hx hb dX4_copy_37 rfl (lv_at hl 1 rfl) ?_
  refine va_get (D := D) (ci := 4) (v := .int (iI (nst2))) (C := RX4) (T := TX4) (N := 10) hx hb hts UX4 hown hK hP 1 rfl rfl 4 (by decide) L28 (fun _ h9 => h9) rfl dX4_copy_38 ?_
  refine va_put (D := D) (ci := 4) (v := .int (iI (nst2))) (ty := .int) (C := RX4) (T := TX4) (N := 10) hx hb hts UX4 tyX4 tyX4_ok nmX4 hown hK hP hD hS 0 rfl rfl 4 (by decide) L28 (fun _ h9 => h9) rfl rfl rfl rfl (Nat.le_of_ble_eq_true rfl) dX4_copy_41 (fun H locs hP hD hS => ?_)
  have hP : va_P D vwCl [(h0, .inr (4, [.int (iI (nk2)), .int (iI (nd2)), .int (iI (nb2)), .int (iI (nsp2)), .int (iI (nst2)), .int (iI (nmo)), .int (iI (ntu)), .int (iI (nri)), .int (iI (nla)), .int (iI (nro2))])), (h1, .inr (4, [.int (iI (nk2)), .int (iI (nd2)), .int (iI (nb2)), .int (iI (nsp2)), .int (iI (nst2)), .int (iI (nmo2)), .int (iI (ntu2)), .int (iI (nri2)), .int (iI (nla2)), .int (iI (nro2))]))] H := hP
  have hD : va_D A [(h0, .inr (4, [.int (iI (nk2)), .int (iI (nd2)), .int (iI (nb2)), .int (iI (nsp2)), .int (iI (nst2)), .int (iI (nmo)), .int (iI (ntu)), .int (iI (nri)), .int (iI (nla)), .int (iI (nro2))])), (h1, .inr (4, [.int (iI (nk2)), .int (iI (nd2)), .int (iI (nb2)), .int (iI (nsp2)), .int (iI (nst2)), .int (iI (nmo2)), .int (iI (ntu2)), .int (iI (nri2)), .int (iI (nla2)), .int (iI (nro2))]))] := hD
  refine lv_aload_n hx hb dX4_copy_44 rfl (lv_at hl 0 rfl) ?_
  refine lv_aload_n hx hb dX4_copy_45 rfl (lv_at hl 1 rfl) ?_
  refine va_get (D := D) (ci := 4) (v := .int (iI (nmo2))) (C := RX4) (T := TX4) (N := 10) hx hb hts UX4 hown hK hP 1 rfl rfl 5 (by decide) L31 (fun _ h9 => h9) rfl dX4_copy_46 ?_
  refine va_put (D := D) (ci := 4) (v := .int (iI (nmo2))) (ty := .int) (C := RX4) (T := TX4) (N := 10) hx hb hts UX4 tyX4 tyX4_ok nmX4 hown hK hP hD hS 0 rfl rfl 5 (by decide) L31 (fun _ h9 => h9) rfl rfl rfl rfl (Nat.le_of_ble_eq_true rfl) dX4_copy_49 (fun H locs hP hD hS => ?_)
  have hP : va_P D vwCl [(h0, .inr (4, [.int (iI (nk2)), .int (iI (nd2)), .int (iI (nb2)), .int (iI (nsp2)), .int (iI (nst2)), .int (iI (nmo2)), .int (iI (ntu)), .int (iI (nri)), .int (iI (nla)), .int (iI (nro2))])), (h1, .inr (4, [.int (iI (nk2)), .int (iI (nd2)), .int (iI (nb2)), .int (iI (nsp2)), .int (iI (nst2)), .int (iI (nmo2)), .int (iI (ntu2)), .int (iI (nri2)), .int (iI (nla2)), .int (iI (nro2))]))] H := hP
  have hD : va_D A [(h0, .inr (4, [.int (iI (nk2)), .int (iI (nd2)), .int (iI (nb2)), .int (iI (nsp2)), .int (iI (nst2)), .int (iI (nmo2)), .int (iI (ntu)), .int (iI (nri)), .int (iI (nla)), .int (iI (nro2))])), (h1, .inr (4, [.int (iI (nk2)), .int (iI (nd2)), .int (iI (nb2)), .int (iI (nsp2)), .int (iI (nst2)), .int (iI (nmo2)), .int (iI (ntu2)), .int (iI (nri2)), .int (iI (nla2)), .int (iI (nro2))]))] := hD
  refine lv_aload_n hx hb dX4_copy_52 rfl (lv_at hl 0 rfl) ?_
  refine lv_aload_n hx hb dX4_copy_53 rfl (lv_at hl 1 rfl) ?_
  refine va_get (D := D) (ci := 4) (v := .int (iI (ntu2))) (C := RX4) (T := TX4) (N := 10) hx hb hts UX4 hown hK hP 1 rfl rfl 6 (by decide) L34 (fun _ h9 => h9) rfl dX4_copy_54 ?_
  refine va_put (D := D) (ci := 4) (v := .int (iI (ntu2))) (ty := .int) (C := RX4) (T := TX4) (N := 10) hx hb hts UX4 tyX4 tyX4_ok nmX4 hown hK hP hD hS 0 rfl rfl 6 (by decide) L34 (fun _ h9 => h9) rfl rfl rfl rfl (Nat.le_of_ble_eq_true rfl) dX4_copy_57 (fun H locs hP hD hS => ?_)
  have hP : va_P D vwCl [(h0, .inr (4, [.int (iI (nk2)), .int (iI (nd2)), .int (iI (nb2)), .int (iI (nsp2)), .int (iI (nst2)), .int (iI (nmo2)), .int (iI (ntu2)), .int (iI (nri)), .int (iI (nla)), .int (iI (nro2))])), (h1, .inr (4, [.int (iI (nk2)), .int (iI (nd2)), .int (iI (nb2)), .int (iI (nsp2)), .int (iI (nst2)), .int (iI (nmo2)), .int (iI (ntu2)), .int (iI (nri2)), .int (iI (nla2)), .int (iI (nro2))]))] H := hP
  have hD : va_D A [(h0, .inr (4, [.int (iI (nk2)), .int (iI (nd2)), .int (iI (nb2)), .int (iI (nsp2)), .int (iI (nst2)), .int (iI (nmo2)), .int (iI (ntu2)), .int (iI (nri)), .int (iI (nla)), .int (iI (nro2))])), (h1, .inr (4, [.int (iI (nk2)), .int (iI (nd2)), .int (iI (nb2)), .int (iI (nsp2)), .int (iI (nst2)), .int (iI (nmo2)), .int (iI (ntu2)), .int (iI (nri2)), .int (iI (nla2)), .int (iI (nro2))]))] := hD
  refine lv_aload_n hx hb dX4_copy_60 rfl (lv_at hl 0 rfl) ?_
  refine lv_aload_n hx hb dX4_copy_61 rfl (lv_at hl 1 rfl) ?_
  refine va_get (D := D) (ci := 4) (v := .int (iI (nri2))) (C := RX4) (T := TX4) (N := 10) hx hb hts UX4 hown hK hP 1 rfl rfl 7 (by decide) L37 (fun _ h9 => h9) rfl dX4_copy_62 ?_
  refine va_put (D := D) (ci := 4) (v := .int (iI (nri2))) (ty := .int) (C := RX4) (T := TX4) (N := 10) hx hb hts UX4 tyX4 tyX4_ok nmX4 hown hK hP hD hS 0 rfl rfl 7 (by decide) L37 (fun _ h9 => h9) rfl rfl rfl rfl (Nat.le_of_ble_eq_true rfl) dX4_copy_65 (fun H locs hP hD hS => ?_)
  have hP : va_P D vwCl [(h0, .inr (4, [.int (iI (nk2)), .int (iI (nd2)), .int (iI (nb2)), .int (iI (nsp2)), .int (iI (nst2)), .int (iI (nmo2)), .int (iI (ntu2)), .int (iI (nri2)), .int (iI (nla)), .int (iI (nro2))])), (h1, .inr (4, [.int (iI (nk2)), .int (iI (nd2)), .int (iI (nb2)), .int (iI (nsp2)), .int (iI (nst2)), .int (iI (nmo2)), .int (iI (ntu2)), .int (iI (nri2)), .int (iI (nla2)), .int (iI (nro2))]))] H := hP
  have hD : va_D A [(h0, .inr (4, [.int (iI (nk2)), .int (iI (nd2)), .int (iI (nb2)), .int (iI (nsp2)), .int (iI (nst2)), .int (iI (nmo2)), .int (iI (ntu2)), .int (iI (nri2)), .int (iI (nla)), .int (iI (nro2))])), (h1, .inr (4, [.int (iI (nk2)), .int (iI (nd2)), .int (iI (nb2)), .int (iI (nsp2)), .int (iI (nst2)), .int (iI (nmo2)), .int (iI (ntu2)), .int (iI (nri2)), .int (iI (nla2)), .int (iI (nro2))]))] := hD
  refine lv_aload_n hx hb dX4_copy_68 rfl (lv_at hl 0 rfl) ?_
  refine lv_aload_n hx hb dX4_copy_69 rfl (lv_at hl 1 rfl) ?_
  refine va_get (D := D) (ci := 4) (v := .int (iI (nla2))) (C := RX4) (T := TX4) (N := 10) hx hb hts UX4 hown hK hP 1 rfl rfl 8 (by decide) L40 (fun _ h9 => h9) rfl dX4_copy_70 ?_
  refine va_put (D := D) (ci := 4) (v := .int (iI (nla2))) (ty := .int) (C := RX4) (T := TX4) (N := 10) hx hb hts UX4 tyX4 tyX4_ok nmX4 hown hK hP hD hS 0 rfl rfl 8 (by decide) L40 (fun _ h9 => h9) rfl rfl rfl rfl (Nat.le_of_ble_eq_true rfl) dX4_copy_73 (fun H locs hP hD hS => ?_)
  have hP : va_P D vwCl [(h0, .inr (4, [.int (iI (nk2)), .int (iI (nd2)), .int (iI (nb2)), .int (iI (nsp2)), .int (iI (nst2)), .int (iI (nmo2)), .int (iI (ntu2)), .int (iI (nri2)), .int (iI (nla2)), .int (iI (nro2))])), (h1, .inr (4, [.int (iI (nk2)), .int (iI (nd2)), .int (iI (nb2)), .int (iI (nsp2)), .int (iI (nst2)), .int (iI (nmo2)), .int (iI (ntu2)), .int (iI (nri2)), .int (iI (nla2)), .int (iI (nro2))]))] H := hP
  have hD : va_D A [(h0, .inr (4, [.int (iI (nk2)), .int (iI (nd2)), .int (iI (nb2)), .int (iI (nsp2)), .int (iI (nst2)), .int (iI (nmo2)), .int (iI (ntu2)), .int (iI (nri2)), .int (iI (nla2)), .int (iI (nro2))])), (h1, .inr (4, [.int (iI (nk2)), .int (iI (nd2)), .int (iI (nb2)), .int (iI (nsp2)), .int (iI (nst2)), .int (iI (nmo2)), .int (iI (ntu2)), .int (iI (nri2)), .int (iI (nla2)), .int (iI (nro2))]))] := hD
  rw [hQ]; exact jm_vret () hx hb hr hlocks hS hP rfl trivial dX4_copy_76
abbrev rmX4_state : Room := { frames := 2, cells := 0, slots := 0, locals := 43 }
set_option maxHeartbeats 4000000 in
set_option maxRecDepth 100000 in
theorem c_X4_state (l : Launch) (D : va_G) (cI cZ : ClassId) (z : jZT) (h0 h1 h2 : Nat) (nk nd nb nsp nst nmo ntu nri nla nro Wi Hi bl sc sd no tu be sp : Int) (g : Int → Int) (hW : 3 ≤ Wi ∧ Wi ≤ 16) (hH : 3 ≤ Hi ∧ Hi ≤ 16) (hg : ∀ j : Int, 0 ≤ j → j < 256 → 0 ≤ g j ∧ g j ≤ 2) (hnk : -9 ≤ nk ∧ nk < 256) (hsp : 0 ≤ nsp ∧ nsp < 2147483648) : jRd l yX4_state wsX4_state rmX4_state [.ref h0, .ref h1] D cI cZ z [(h0, .inr (4, [.int (iI (nk)), .int (iI (nd)), .int (iI (nb)), .int (iI (nsp)), .int (iI (nst)), .int (iI (nmo)), .int (iI (ntu)), .int (iI (nri)), .int (iI (nla)), .int (iI (nro))])), (h1, .inr (7, [.ref h2, .int (iI (Wi)), .int (iI (Hi)), .int (iI (bl)), .int (iI (sc)), .int (iI (sd)), .int (iI (no)), .int (iI (tu)), .int (iI (be)), .int (iI (sp))])), (h2, .inl (cI, 256, .inl (aI g)))] (some (.int (iI (stI Wi Hi g nk nsp)))) := by
  refine jRd_of (cc := cX4_state) (n := 2) (ret := (some .int)) (by decide) rfl (Nat.le_of_ble_eq_true rfl) ?_
  intro p e s m below meth c A ls args Q hQ F hA hZ hP hK hD hS hl
  obtain ⟨hx, hb, hr, hml, hown, hts, hlocks⟩ := F
  have hown : s.vm.findClass RX4 = some m.cls := hown
  have hl : lv_has ls 2 [(0, .ref h0), (1, .ref h1)] := hl
  have L43 := hts (.fieldLink RX4 43 "TinMouse$Now" "cell" "I") (by decide +kernel)
  have L27 := hts (.fieldLink RX4 27 "TinMouse$Now" "spring" "I") (by decide +kernel)
  have UX4 : ∀ w ∈ wsX40, w ∈ wsX4_state := fun w h => List.mem_cons_of_mem _ (List.mem_append_left _ (List.mem_append_right _ h))
  refine lv_aload_n hx hb dX4_state_0 rfl (lv_at hl 1 rfl) ?_
  refine lv_aload_n hx hb dX4_state_1 rfl (lv_at hl 0 rfl) ?_
  refine va_get (D := D) (ci := 4) (v := .int (iI (nk))) (C := RX4) (T := TX4) (N := 10) hx hb hts UX4 hown hK hP 0 rfl rfl 0 (by decide) L43 (fun _ h9 => h9) rfl dX4_state_2 ?_
  refine j_rd (va_runV (As := [.int (iI (nk))]) (rest := []) ⟨hx, hb, hml, hown, hts⟩ (c_X7_isWood l D cI cZ z h1 h2 nk Wi Hi bl sc sd no tu be sp g (by first | assumption | omega) (by first | assumption | omega) (by first | assumption | omega) (by first | assumption | omega) s.heap.size) (cwV 1 hts gX4_state_X7_isWood rfl rfl rfl hvX7_isWood ⟨Nat.le_of_ble_eq_true rfl, Nat.le_of_ble_eq_true rfl⟩) (j_preV hP hD hK hS hZ hA [1, 2] rfl rfl 1 rfl rfl) rfl rfl hl.1 rfl (lv_room (Nat.le_of_ble_eq_true rfl)) dX4_state_5 ⟨Nat.zero_le _, Nat.zero_le _⟩) ?_
  refine j_ifne_b (tgt := 13) hx hb dX4_state_8 (by decide) (fun c_8 => ?_) (fun c_8 => ?_)
  · refine lv_aload_n hx hb dX4_state_13 rfl (lv_at hl 0 rfl) ?_
    refine va_get (D := D) (ci := 4) (v := .int (iI (nsp))) (C := RX4) (T := TX4) (N := 10) hx hb hts UX4 hown hK hP 0 rfl rfl 3 (by decide) L27 (fun _ h9 => h9) rfl dX4_state_14 ?_
    refine j_if_ne (tgt := 24) hx hb (by omega) dX4_state_17 (by decide) (fun c_17 => ?_) (fun c_17 => ?_)
    · refine lv_iconst (v := iI (0)) hx hb dX4_state_24 rfl ?_
      rw [hQ]; exact jr_iret hx hb hr hlocks (jo_i (by unfold stI; simp [*])) dX4_state_25
    · refine lv_iconst (v := iI (1)) hx hb dX4_state_20 rfl ?_
      refine lv_goto (tgt := 25) hx hb dX4_state_21 (by decide) ?_
      rw [hQ]; exact jr_iret hx hb hr hlocks (jo_i (by unfold stI; simp [*])) dX4_state_25
  · refine lv_iconst (v := iI (2)) hx hb dX4_state_11 rfl ?_
    rw [hQ]; exact jr_iret hx hb hr hlocks (jo_i (by unfold stI; simp [*])) dX4_state_12
abbrev rmX4_woodBeside : Room := { frames := 2, cells := 0, slots := 0, locals := 47 }
set_option maxHeartbeats 4000000 in
set_option maxRecDepth 100000 in
theorem c_X4_woodBeside (l : Launch) (D : va_G) (cI cZ : ClassId) (z : jZT) (h0 h1 h2 : Nat) (e9 nk nd nb nsp nst nmo ntu nri nla nro Wi Hi bl sc sd no tu be sp : Int) (g : Int → Int) (hW : 3 ≤ Wi ∧ Wi ≤ 16) (hH : 3 ≤ Hi ∧ Hi ≤ 16) (hg : ∀ j : Int, 0 ≤ j → j < 256 → 0 ≤ g j ∧ g j ≤ 2) (hno : 1 ≤ no ∧ no ≤ 3) (hnk : -9 ≤ nk ∧ nk < 256) (hnd : 0 ≤ nd ∧ nd < 8) (he : 0 ≤ e9 ∧ e9 < 8) : jRd l yX4_woodBeside wsX4_woodBeside rmX4_woodBeside [.ref h0, .ref h1, .int (iI (e9))] D cI cZ z [(h0, .inr (4, [.int (iI (nk)), .int (iI (nd)), .int (iI (nb)), .int (iI (nsp)), .int (iI (nst)), .int (iI (nmo)), .int (iI (ntu)), .int (iI (nri)), .int (iI (nla)), .int (iI (nro))])), (h1, .inr (7, [.ref h2, .int (iI (Wi)), .int (iI (Hi)), .int (iI (bl)), .int (iI (sc)), .int (iI (sd)), .int (iI (no)), .int (iI (tu)), .int (iI (be)), .int (iI (sp))])), (h2, .inl (cI, 256, .inl (aI g)))] (some (.int (iI (bI (isWd Wi Hi g (offI Wi Hi nk ((nd + e9) % 8) no)))))) := by
  refine jRd_of (cc := cX4_woodBeside) (n := 3) (ret := (some .boolean)) (by decide) rfl (Nat.le_of_ble_eq_true rfl) ?_
  intro p e s m below meth c A ls args Q hQ F hA hZ hP hK hD hS hl
  obtain ⟨hx, hb, hr, hml, hown, hts, hlocks⟩ := F
  have hown : s.vm.findClass RX4 = some m.cls := hown
  have hl : lv_has ls 3 [(0, .ref h0), (1, .ref h1), (2, .int (iI (e9)))] := hl
  have L43 := hts (.fieldLink RX4 43 "TinMouse$Now" "cell" "I") (by decide +kernel)
  have L46 := hts (.fieldLink RX4 46 "TinMouse$Now" "direction" "I") (by decide +kernel)
  have L59 := hts (.fieldLink RX4 59 "TinMouse$Table" "nose" "I") (by decide +kernel)
  have UX4 : ∀ w ∈ wsX40, w ∈ wsX4_woodBeside := fun w h => List.mem_cons_of_mem _ (List.mem_append_left _ (List.mem_append_right _ h))
  have UX7 : ∀ w ∈ wsX70, w ∈ wsX4_woodBeside := fun w h => List.mem_cons_of_mem _ (List.mem_append_right _ h)
  have hwh := wh_rng hW hH
  have ho1 := offI_rng hW hH nk ((nd + e9) % 8) no
  refine lv_aload_n hx hb dX4_woodBeside_0 rfl (lv_at hl 1 rfl) ?_
  refine lv_aload_n hx hb dX4_woodBeside_1 rfl (lv_at hl 1 rfl) ?_
  refine lv_aload_n hx hb dX4_woodBeside_2 rfl (lv_at hl 0 rfl) ?_
  refine va_get (D := D) (ci := 4) (v := .int (iI (nk))) (C := RX4) (T := TX4) (N := 10) hx hb hts UX4 hown hK hP 0 rfl rfl 0 (by decide) L43 (fun _ h9 => h9) rfl dX4_woodBeside_3 ?_
  refine lv_aload_n hx hb dX4_woodBeside_6 rfl (lv_at hl 0 rfl) ?_
  refine va_get (D := D) (ci := 4) (v := .int (iI (nd))) (C := RX4) (T := TX4) (N := 10) hx hb hts UX4 hown hK hP 0 rfl rfl 1 (by decide) L46 (fun _ h9 => h9) rfl dX4_woodBeside_7 ?_
  refine lv_iload_n hx hb dX4_woodBeside_10 rfl (lv_at hl 2 rfl) ?_
  refine j_iadd hx hb dX4_woodBeside_11 ?_
  refine lv_bipush (v := iI (8)) hx hb dX4_woodBeside_12 (by decide) ?_
  refine j_irem hx hb (by omega) dX4_woodBeside_14 ?_
  refine lv_aload_n hx hb dX4_woodBeside_15 rfl (lv_at hl 1 rfl) ?_
  refine va_get (D := D) (ci := 7) (v := .int (iI (no))) (C := RX7) (T := TX7) (N := 10) hx hb hts UX7 hown hK hP 1 rfl rfl 6 (by decide) L59 (fun _ h9 => h9) rfl dX4_woodBeside_16 ?_
  refine j_rd (va_runV (As := [.int (iI (nk)), .int (iI ((nd + e9) % 8)), .int (iI (no))]) (rest := [.ref h1]) ⟨hx, hb, hml, hown, hts⟩ (c_X7_off l D cI cZ z h1 h2 nk ((nd + e9) % 8) no Wi Hi bl sc sd no tu be sp g (by first | assumption | omega) (by first | assumption | omega) (by first | assumption | omega) (by first | assumption | omega) (by first | assumption | omega) s.heap.size) (cwV 3 hts gX4_woodBeside_X7_off rfl rfl rfl hvX7_off ⟨Nat.le_of_ble_eq_true rfl, Nat.le_of_ble_eq_true rfl⟩) (j_preV hP hD hK hS hZ hA [1, 2] rfl rfl 1 rfl rfl) rfl rfl hl.1 rfl (lv_room (Nat.le_of_ble_eq_true rfl)) dX4_woodBeside_19 ⟨Nat.zero_le _, Nat.zero_le _⟩) ?_
  refine j_rd (va_runV (As := [.int (iI (offI Wi Hi nk ((nd + e9) % 8) no))]) (rest := []) ⟨hx, hb, hml, hown, hts⟩ (c_X7_isWood l D cI cZ z h1 h2 (offI Wi Hi nk ((nd + e9) % 8) no) Wi Hi bl sc sd no tu be sp g (by first | assumption | omega) (by first | assumption | omega) (by first | assumption | omega) (by first | assumption | omega) s.heap.size) (cwV 1 hts gX4_woodBeside_X7_isWood rfl rfl rfl hvX7_isWood ⟨Nat.le_of_ble_eq_true rfl, Nat.le_of_ble_eq_true rfl⟩) (j_preV hP hD hK hS hZ hA [1, 2] rfl rfl 1 rfl rfl) rfl rfl hl.1 rfl (lv_room (Nat.le_of_ble_eq_true rfl)) dX4_woodBeside_22 ⟨Nat.zero_le _, Nat.zero_le _⟩) ?_
  rw [hQ]; exact jr_zret hx hb hr hlocks (jn_b _) rfl dX4_woodBeside_25
theorem hsX4_woodBeside : yX4_woodBeside.cls ≠ "java/lang/invoke/MethodHandle" ∧ yX4_woodBeside.cls ≠ "java/lang/invoke/VarHandle" ∧ (parseMethodDescriptor yX4_woodBeside.desc).map (fun d => d.parameters.length) = some 2 := by decide +kernel
theorem hvX4_woodBeside : yX4_woodBeside.cls = RX4 ∧ yX4_woodBeside.cls ≠ "java/lang/invoke/MethodHandle" ∧ yX4_woodBeside.cls ≠ "java/lang/invoke/VarHandle" ∧ (parseMethodDescriptor yX4_woodBeside.desc).map (fun d => d.parameters.length) = some 2 := ⟨rfl, hsX4_woodBeside⟩
abbrev rmX4_sortOfTurn : Room := { frames := 3, cells := 0, slots := 0, locals := 69 }
set_option maxHeartbeats 4000000 in
set_option maxRecDepth 100000 in
theorem c_X4_sortOfTurn (l : Launch) (D : va_G) (cI cZ : ClassId) (z : jZT) (h0 h1 h2 : Nat) (nk nd nb nsp nst nmo ntu nri nla nro Wi Hi bl sc sd no tu be sp : Int) (g : Int → Int) (hW : 3 ≤ Wi ∧ Wi ≤ 16) (hH : 3 ≤ Hi ∧ Hi ≤ 16) (hg : ∀ j : Int, 0 ≤ j → j < 256 → 0 ≤ g j ∧ g j ≤ 2) (hno : 1 ≤ no ∧ no ≤ 3) (hnk : -9 ≤ nk ∧ nk < 256) (hnd : 0 ≤ nd ∧ nd < 8) (hro : 0 ≤ nro ∧ nro < 2147483648) : jRd l yX4_sortOfTurn wsX4_sortOfTurn rmX4_sortOfTurn [.ref h0, .ref h1] D cI cZ z [(h0, .inr (4, [.int (iI (nk)), .int (iI (nd)), .int (iI (nb)), .int (iI (nsp)), .int (iI (nst)), .int (iI (nmo)), .int (iI (ntu)), .int (iI (nri)), .int (iI (nla)), .int (iI (nro))])), (h1, .inr (7, [.ref h2, .int (iI (Wi)), .int (iI (Hi)), .int (iI (bl)), .int (iI (sc)), .int (iI (sd)), .int (iI (no)), .int (iI (tu)), .int (iI (be)), .int (iI (sp))])), (h2, .inl (cI, 256, .inl (aI g)))] (some (.int (iI (srt Wi Hi g no nk nd nro)))) := by
  refine jRd_of (cc := cX4_sortOfTurn) (n := 2) (ret := (some .int)) (by decide) rfl (Nat.le_of_ble_eq_true rfl) ?_
  intro p e s m below meth c A ls args Q hQ F hA hZ hP hK hD hS hl
  obtain ⟨hx, hb, hr, hml, hown, hts, hlocks⟩ := F
  have hown : s.vm.findClass RX4 = some m.cls := hown
  have hl : lv_has ls 2 [(0, .ref h0), (1, .ref h1)] := hl
  have L43 := hts (.fieldLink RX4 43 "TinMouse$Now" "cell" "I") (by decide +kernel)
  have L46 := hts (.fieldLink RX4 46 "TinMouse$Now" "direction" "I") (by decide +kernel)
  have L52 := hts (.fieldLink RX4 52 "TinMouse$Now" "row" "I") (by decide +kernel)
  have UX4 : ∀ w ∈ wsX40, w ∈ wsX4_sortOfTurn := fun w h => List.mem_cons_of_mem _ (List.mem_append_left _ (List.mem_append_right _ h))
  have hwh := wh_rng hW hH
  have ho1 := offI_rng hW hH nk nd 1
  refine lv_aload_n hx hb dX4_sortOfTurn_0 rfl (lv_at hl 1 rfl) ?_
  refine lv_aload_n hx hb dX4_sortOfTurn_1 rfl (lv_at hl 1 rfl) ?_
  refine lv_aload_n hx hb dX4_sortOfTurn_2 rfl (lv_at hl 0 rfl) ?_
  refine va_get (D := D) (ci := 4) (v := .int (iI (nk))) (C := RX4) (T := TX4) (N := 10) hx hb hts UX4 hown hK hP 0 rfl rfl 0 (by decide) L43 (fun _ h9 => h9) rfl dX4_sortOfTurn_3 ?_
  refine lv_aload_n hx hb dX4_sortOfTurn_6 rfl (lv_at hl 0 rfl) ?_
  refine va_get (D := D) (ci := 4) (v := .int (iI (nd))) (C := RX4) (T := TX4) (N := 10) hx hb hts UX4 hown hK hP 0 rfl rfl 1 (by decide) L46 (fun _ h9 => h9) rfl dX4_sortOfTurn_7 ?_
  refine lv_iconst (v := iI (1)) hx hb dX4_sortOfTurn_10 rfl ?_
  refine j_rd (va_runV (As := [.int (iI (nk)), .int (iI (nd)), .int (iI (1))]) (rest := [.ref h1]) ⟨hx, hb, hml, hown, hts⟩ (c_X7_off l D cI cZ z h1 h2 nk nd 1 Wi Hi bl sc sd no tu be sp g (by first | assumption | omega) (by first | assumption | omega) (by first | assumption | omega) (by first | assumption | omega) (by first | assumption | omega) s.heap.size) (cwV 3 hts gX4_sortOfTurn_X7_off rfl rfl rfl hvX7_off ⟨Nat.le_of_ble_eq_true rfl, Nat.le_of_ble_eq_true rfl⟩) (j_preV hP hD hK hS hZ hA [1, 2] rfl rfl 1 rfl rfl) rfl rfl hl.1 rfl (lv_room (Nat.le_of_ble_eq_true rfl)) dX4_sortOfTurn_11 ⟨Nat.zero_le _, Nat.zero_le _⟩) ?_
  refine j_rd (va_runV (As := [.int (iI (offI Wi Hi nk nd 1))]) (rest := []) ⟨hx, hb, hml, hown, hts⟩ (c_X7_hasBook l D cI cZ z h1 h2 (offI Wi Hi nk nd 1) Wi Hi bl sc sd no tu be sp g (by first | assumption | omega) (by first | assumption | omega) (by first | assumption | omega) (by first | assumption | omega) s.heap.size) (cwV 1 hts gX4_sortOfTurn_X7_hasBook rfl rfl rfl hvX7_hasBook ⟨Nat.le_of_ble_eq_true rfl, Nat.le_of_ble_eq_true rfl⟩) (j_preV hP hD hK hS hZ hA [1, 2] rfl rfl 1 rfl rfl) rfl rfl hl.1 rfl (lv_room (Nat.le_of_ble_eq_true rfl)) dX4_sortOfTurn_14 ⟨Nat.zero_le _, Nat.zero_le _⟩) ?_
  refine j_ifeq_b (tgt := 22) hx hb dX4_sortOfTurn_17 (by decide) (fun c_17 => ?_) (fun c_17 => ?_)
  · refine lv_aload_n hx hb dX4_sortOfTurn_22 rfl (lv_at hl 0 rfl) ?_
    refine va_get (D := D) (ci := 4) (v := .int (iI (nro))) (C := RX4) (T := TX4) (N := 10) hx hb hts UX4 hown hK hP 0 rfl rfl 9 (by decide) L52 (fun _ h9 => h9) rfl dX4_sortOfTurn_23 ?_
    refine lv_iconst (v := iI (4)) hx hb dX4_sortOfTurn_26 rfl ?_
    refine j_icmp_lt (tgt := 32) hx hb (by omega) dX4_sortOfTurn_27 (by decide) (fun c_27 => ?_) (fun c_27 => ?_)
    · refine lv_aload_n hx hb dX4_sortOfTurn_32 rfl (lv_at hl 0 rfl) ?_
      refine va_get (D := D) (ci := 4) (v := .int (iI (nd))) (C := RX4) (T := TX4) (N := 10) hx hb hts UX4 hown hK hP 0 rfl rfl 1 (by decide) L46 (fun _ h9 => h9) rfl dX4_sortOfTurn_33 ?_
      refine lv_iconst (v := iI (2)) hx hb dX4_sortOfTurn_36 rfl ?_
      refine j_irem hx hb (by omega) dX4_sortOfTurn_37 ?_
      refine j_if_ne (tgt := 43) hx hb (by omega) dX4_sortOfTurn_38 (by decide) (fun c_38 => ?_) (fun c_38 => ?_)
      · refine lv_aload_n hx hb dX4_sortOfTurn_43 rfl (lv_at hl 0 rfl) ?_
        refine lv_aload_n hx hb dX4_sortOfTurn_44 rfl (lv_at hl 1 rfl) ?_
        refine lv_iconst (v := iI (1)) hx hb dX4_sortOfTurn_45 rfl ?_
        refine j_rd (va_runV (As := [.ref h1, .int (iI (1))]) (rest := []) ⟨hx, hb, hml, hown, hts⟩ (c_X4_woodBeside l D cI cZ z h0 h1 h2 1 nk nd nb nsp nst nmo ntu nri nla nro Wi Hi bl sc sd no tu be sp g (by first | assumption | omega) (by first | assumption | omega) (by first | assumption | omega) (by first | assumption | omega) (by first | assumption | omega) (by first | assumption | omega) (by first | assumption | omega) s.heap.size) (cwV 2 hts gX4_sortOfTurn_X4_woodBeside rfl rfl rfl hvX4_woodBeside ⟨Nat.le_of_ble_eq_true rfl, Nat.le_of_ble_eq_true rfl⟩) (j_preV hP hD hK hS hZ hA [0, 1, 2] rfl rfl 0 rfl rfl) rfl rfl hl.1 rfl (lv_room (Nat.le_of_ble_eq_true rfl)) dX4_sortOfTurn_46 ⟨Nat.zero_le _, Nat.zero_le _⟩) ?_
        refine j_ifne_b (tgt := 62) hx hb dX4_sortOfTurn_49 (by decide) (fun c_49 => ?_) (fun c_49 => ?_)
        · refine lv_iconst (v := iI (1)) hx hb dX4_sortOfTurn_62 rfl ?_
          refine lv_goto (tgt := 67) hx hb dX4_sortOfTurn_63 (by decide) ?_
          rw [hQ]; exact jr_iret hx hb hr hlocks (jo_i (by unfold srt; simp [*])) dX4_sortOfTurn_67
        · refine lv_aload_n hx hb dX4_sortOfTurn_52 rfl (lv_at hl 0 rfl) ?_
          refine lv_aload_n hx hb dX4_sortOfTurn_53 rfl (lv_at hl 1 rfl) ?_
          refine lv_bipush (v := iI (7)) hx hb dX4_sortOfTurn_54 (by decide) ?_
          refine j_rd (va_runV (As := [.ref h1, .int (iI (7))]) (rest := []) ⟨hx, hb, hml, hown, hts⟩ (c_X4_woodBeside l D cI cZ z h0 h1 h2 7 nk nd nb nsp nst nmo ntu nri nla nro Wi Hi bl sc sd no tu be sp g (by first | assumption | omega) (by first | assumption | omega) (by first | assumption | omega) (by first | assumption | omega) (by first | assumption | omega) (by first | assumption | omega) (by first | assumption | omega) s.heap.size) (cwV 2 hts gX4_sortOfTurn_X4_woodBeside rfl rfl rfl hvX4_woodBeside ⟨Nat.le_of_ble_eq_true rfl, Nat.le_of_ble_eq_true rfl⟩) (j_preV hP hD hK hS hZ hA [0, 1, 2] rfl rfl 0 rfl rfl) rfl rfl hl.1 rfl (lv_room (Nat.le_of_ble_eq_true rfl)) dX4_sortOfTurn_56 ⟨Nat.zero_le _, Nat.zero_le _⟩) ?_
          refine j_ifeq_b (tgt := 66) hx hb dX4_sortOfTurn_59 (by decide) (fun c_59 => ?_) (fun c_59 => ?_)
          · refine lv_iconst (v := iI (3)) hx hb dX4_sortOfTurn_66 rfl ?_
            rw [hQ]; exact jr_iret hx hb hr hlocks (jo_i (by unfold srt; simp [*])) dX4_sortOfTurn_67
          · refine lv_iconst (v := iI (1)) hx hb dX4_sortOfTurn_62 rfl ?_
            refine lv_goto (tgt := 67) hx hb dX4_sortOfTurn_63 (by decide) ?_
            rw [hQ]; exact jr_iret hx hb hr hlocks (jo_i (by unfold srt; simp [*])) dX4_sortOfTurn_67
      · refine lv_iconst (v := iI (2)) hx hb dX4_sortOfTurn_41 rfl ?_
        rw [hQ]; exact jr_iret hx hb hr hlocks (jo_i (by unfold srt; simp [*])) dX4_sortOfTurn_42
    · refine lv_iconst (v := iI (4)) hx hb dX4_sortOfTurn_30 rfl ?_
      rw [hQ]; exact jr_iret hx hb hr hlocks (jo_i (by unfold srt; simp [*])) dX4_sortOfTurn_31
  · refine lv_iconst (v := iI (5)) hx hb dX4_sortOfTurn_20 rfl ?_
    rw [hQ]; exact jr_iret hx hb hr hlocks (jo_i (by unfold srt; simp [*])) dX4_sortOfTurn_21
theorem hsX4_sortOfTurn : yX4_sortOfTurn.cls ≠ "java/lang/invoke/MethodHandle" ∧ yX4_sortOfTurn.cls ≠ "java/lang/invoke/VarHandle" ∧ (parseMethodDescriptor yX4_sortOfTurn.desc).map (fun d => d.parameters.length) = some 1 := by decide +kernel
theorem hvX4_sortOfTurn : yX4_sortOfTurn.cls = RX4 ∧ yX4_sortOfTurn.cls ≠ "java/lang/invoke/MethodHandle" ∧ yX4_sortOfTurn.cls ≠ "java/lang/invoke/VarHandle" ∧ (parseMethodDescriptor yX4_sortOfTurn.desc).map (fun d => d.parameters.length) = some 1 := ⟨rfl, hsX4_sortOfTurn⟩
abbrev rmX4_turnRight : Room := { frames := 4, cells := 0, slots := 0, locals := 90 }
set_option maxHeartbeats 4000000 in
set_option maxRecDepth 100000 in
theorem c_X4_turnRight (l : Launch) (D : va_G) (cI cZ : ClassId) (z : jZT) (h0 h1 h2 : Nat) (nk nd nb nsp nst nmo ntu nri nla nro Wi Hi bl sc sd no tu be sp : Int) (g : Int → Int) (hW : 3 ≤ Wi ∧ Wi ≤ 16) (hH : 3 ≤ Hi ∧ Hi ≤ 16) (hg : ∀ j : Int, 0 ≤ j → j < 256 → 0 ≤ g j ∧ g j ≤ 2) (hno : 1 ≤ no ∧ no ≤ 3) (htu : 1 ≤ tu ∧ tu ≤ 7) (hnk : -9 ≤ nk ∧ nk < 256) (hnd : 0 ≤ nd ∧ nd < 8) (hro : 0 ≤ nro ∧ nro < 2147483647) : jMu (S := Unit) l yX4_turnRight wsX4_turnRight rmX4_turnRight [.ref h0, .ref h1] D cI cZ z [(h0, .inr (4, [.int (iI (nk)), .int (iI (nd)), .int (iI (nb)), .int (iI (nsp)), .int (iI (nst)), .int (iI (nmo)), .int (iI (ntu)), .int (iI (nri)), .int (iI (nla)), .int (iI (nro))])), (h1, .inr (7, [.ref h2, .int (iI (Wi)), .int (iI (Hi)), .int (iI (bl)), .int (iI (sc)), .int (iI (sd)), .int (iI (no)), .int (iI (tu)), .int (iI (be)), .int (iI (sp))])), (h2, .inl (cI, 256, .inl (aI g)))] (fun u => none) (fun u => True) (fun u => [(h0, .inr (4, [.int (iI (nk)), .int (iI ((nd + tu) % 8)), .int (iI (nb)), .int (iI (nsp)), .int (iI (nst)), .int (iI (nmo)), .int (iI (ntu + 1)), .int (iI (nri)), .int (iI (srt Wi Hi g no nk nd (nro + 1))), .int (iI (nro + 1))])), (h1, .inr (7, [.ref h2, .int (iI (Wi)), .int (iI (Hi)), .int (iI (bl)), .int (iI (sc)), .int (iI (sd)), .int (iI (no)), .int (iI (tu)), .int (iI (be)), .int (iI (sp))])), (h2, .inl (cI, 256, .inl (aI g)))]) := by
  refine jMu_of (cc := cX4_turnRight) (n := 2) (ret := none) (by decide) rfl (Nat.le_of_ble_eq_true rfl) ?_
  intro p e s m below meth c A ls args Q hQ F hA hZ hP hK hD hS hl
  obtain ⟨hx, hb, hr, hml, hown, hts, hlocks⟩ := F
  have hown : s.vm.findClass RX4 = some m.cls := hown
  have hl : lv_has ls 2 [(0, .ref h0), (1, .ref h1)] := hl
  have L34 := hts (.fieldLink RX4 34 "TinMouse$Now" "turns" "I") (by decide +kernel)
  have L52 := hts (.fieldLink RX4 52 "TinMouse$Now" "row" "I") (by decide +kernel)
  have L40 := hts (.fieldLink RX4 40 "TinMouse$Now" "latest" "I") (by decide +kernel)
  have L46 := hts (.fieldLink RX4 46 "TinMouse$Now" "direction" "I") (by decide +kernel)
  have L77 := hts (.fieldLink RX4 77 "TinMouse$Table" "turn" "I") (by decide +kernel)
  have UX4 : ∀ w ∈ wsX40, w ∈ wsX4_turnRight := fun w h => List.mem_cons_of_mem _ (List.mem_append_left _ (List.mem_append_right _ h))
  have UX7 : ∀ w ∈ wsX70, w ∈ wsX4_turnRight := fun w h => List.mem_cons_of_mem _ (List.mem_append_right _ h)
  refine lv_aload_n hx hb dX4_turnRight_0 rfl (lv_at hl 0 rfl) ?_
  refine lv_dup hx hb dX4_turnRight_1 rfl ?_
  refine va_get (D := D) (ci := 4) (v := .int (iI (ntu))) (C := RX4) (T := TX4) (N := 10) hx hb hts UX4 hown hK hP 0 rfl rfl 6 (by decide) L34 (fun _ h9 => h9) rfl dX4_turnRight_2 ?_
  refine lv_iconst (v := iI (1)) hx hb dX4_turnRight_5 rfl ?_
  refine j_iadd hx hb dX4_turnRight_6 ?_
  refine va_put (D := D) (ci := 4) (v := .int (iI (ntu + 1))) (ty := .int) (C := RX4) (T := TX4) (N := 10) hx hb hts UX4 tyX4 tyX4_ok nmX4 hown hK hP hD hS 0 rfl rfl 6 (by decide) L34 (fun _ h9 => h9) rfl rfl rfl rfl (Nat.le_of_ble_eq_true rfl) dX4_turnRight_7 (fun H locs hP hD hS => ?_)
  have hP : va_P D vwCl [(h0, .inr (4, [.int (iI (nk)), .int (iI (nd)), .int (iI (nb)), .int (iI (nsp)), .int (iI (nst)), .int (iI (nmo)), .int (iI (ntu + 1)), .int (iI (nri)), .int (iI (nla)), .int (iI (nro))])), (h1, .inr (7, [.ref h2, .int (iI (Wi)), .int (iI (Hi)), .int (iI (bl)), .int (iI (sc)), .int (iI (sd)), .int (iI (no)), .int (iI (tu)), .int (iI (be)), .int (iI (sp))])), (h2, .inl (cI, 256, .inl (aI g)))] H := hP
  have hD : va_D A [(h0, .inr (4, [.int (iI (nk)), .int (iI (nd)), .int (iI (nb)), .int (iI (nsp)), .int (iI (nst)), .int (iI (nmo)), .int (iI (ntu + 1)), .int (iI (nri)), .int (iI (nla)), .int (iI (nro))])), (h1, .inr (7, [.ref h2, .int (iI (Wi)), .int (iI (Hi)), .int (iI (bl)), .int (iI (sc)), .int (iI (sd)), .int (iI (no)), .int (iI (tu)), .int (iI (be)), .int (iI (sp))])), (h2, .inl (cI, 256, .inl (aI g)))] := hD
  refine lv_aload_n hx hb dX4_turnRight_10 rfl (lv_at hl 0 rfl) ?_
  refine lv_dup hx hb dX4_turnRight_11 rfl ?_
  refine va_get (D := D) (ci := 4) (v := .int (iI (nro))) (C := RX4) (T := TX4) (N := 10) hx hb hts UX4 hown hK hP 0 rfl rfl 9 (by decide) L52 (fun _ h9 => h9) rfl dX4_turnRight_12 ?_
  refine lv_iconst (v := iI (1)) hx hb dX4_turnRight_15 rfl ?_
  refine j_iadd hx hb dX4_turnRight_16 ?_
  refine va_put (D := D) (ci := 4) (v := .int (iI (nro + 1))) (ty := .int) (C := RX4) (T := TX4) (N := 10) hx hb hts UX4 tyX4 tyX4_ok nmX4 hown hK hP hD hS 0 rfl rfl 9 (by decide) L52 (fun _ h9 => h9) rfl rfl rfl rfl (Nat.le_of_ble_eq_true rfl) dX4_turnRight_17 (fun H locs hP hD hS => ?_)
  have hP : va_P D vwCl [(h0, .inr (4, [.int (iI (nk)), .int (iI (nd)), .int (iI (nb)), .int (iI (nsp)), .int (iI (nst)), .int (iI (nmo)), .int (iI (ntu + 1)), .int (iI (nri)), .int (iI (nla)), .int (iI (nro + 1))])), (h1, .inr (7, [.ref h2, .int (iI (Wi)), .int (iI (Hi)), .int (iI (bl)), .int (iI (sc)), .int (iI (sd)), .int (iI (no)), .int (iI (tu)), .int (iI (be)), .int (iI (sp))])), (h2, .inl (cI, 256, .inl (aI g)))] H := hP
  have hD : va_D A [(h0, .inr (4, [.int (iI (nk)), .int (iI (nd)), .int (iI (nb)), .int (iI (nsp)), .int (iI (nst)), .int (iI (nmo)), .int (iI (ntu + 1)), .int (iI (nri)), .int (iI (nla)), .int (iI (nro + 1))])), (h1, .inr (7, [.ref h2, .int (iI (Wi)), .int (iI (Hi)), .int (iI (bl)), .int (iI (sc)), .int (iI (sd)), .int (iI (no)), .int (iI (tu)), .int (iI (be)), .int (iI (sp))])), (h2, .inl (cI, 256, .inl (aI g)))] := hD
  refine lv_aload_n hx hb dX4_turnRight_20 rfl (lv_at hl 0 rfl) ?_
  refine lv_aload_n hx hb dX4_turnRight_21 rfl (lv_at hl 0 rfl) ?_
  refine lv_aload_n hx hb dX4_turnRight_22 rfl (lv_at hl 1 rfl) ?_
  refine j_rd (va_runV (As := [.ref h1]) (rest := [.ref h0]) ⟨hx, hb, hml, hown, hts⟩ (c_X4_sortOfTurn l D cI cZ z h0 h1 h2 nk nd nb nsp nst nmo (ntu + 1) nri nla (nro + 1) Wi Hi bl sc sd no tu be sp g (by first | assumption | omega) (by first | assumption | omega) (by first | assumption | omega) (by first | assumption | omega) (by first | assumption | omega) (by first | assumption | omega) (by first | assumption | omega) H.size) (cwV 1 hts gX4_turnRight_X4_sortOfTurn rfl rfl rfl hvX4_sortOfTurn ⟨Nat.le_of_ble_eq_true rfl, Nat.le_of_ble_eq_true rfl⟩) (j_preV hP hD hK hS hZ hA [0, 1, 2] rfl rfl 0 rfl rfl) rfl rfl hl.1 rfl (lv_room (Nat.le_of_ble_eq_true rfl)) dX4_turnRight_23 ⟨Nat.zero_le _, Nat.zero_le _⟩) ?_
  refine va_put (D := D) (ci := 4) (v := .int (iI (srt Wi Hi g no nk nd (nro + 1)))) (ty := .int) (C := RX4) (T := TX4) (N := 10) hx hb hts UX4 tyX4 tyX4_ok nmX4 hown hK hP hD hS 0 rfl rfl 8 (by decide) L40 (fun _ h9 => h9) rfl rfl rfl rfl (Nat.le_of_ble_eq_true rfl) dX4_turnRight_26 (fun H locs hP hD hS => ?_)
  have hP : va_P D vwCl [(h0, .inr (4, [.int (iI (nk)), .int (iI (nd)), .int (iI (nb)), .int (iI (nsp)), .int (iI (nst)), .int (iI (nmo)), .int (iI (ntu + 1)), .int (iI (nri)), .int (iI (srt Wi Hi g no nk nd (nro + 1))), .int (iI (nro + 1))])), (h1, .inr (7, [.ref h2, .int (iI (Wi)), .int (iI (Hi)), .int (iI (bl)), .int (iI (sc)), .int (iI (sd)), .int (iI (no)), .int (iI (tu)), .int (iI (be)), .int (iI (sp))])), (h2, .inl (cI, 256, .inl (aI g)))] H := hP
  have hD : va_D A [(h0, .inr (4, [.int (iI (nk)), .int (iI (nd)), .int (iI (nb)), .int (iI (nsp)), .int (iI (nst)), .int (iI (nmo)), .int (iI (ntu + 1)), .int (iI (nri)), .int (iI (srt Wi Hi g no nk nd (nro + 1))), .int (iI (nro + 1))])), (h1, .inr (7, [.ref h2, .int (iI (Wi)), .int (iI (Hi)), .int (iI (bl)), .int (iI (sc)), .int (iI (sd)), .int (iI (no)), .int (iI (tu)), .int (iI (be)), .int (iI (sp))])), (h2, .inl (cI, 256, .inl (aI g)))] := hD
  refine lv_aload_n hx hb dX4_turnRight_29 rfl (lv_at hl 0 rfl) ?_
  refine lv_aload_n hx hb dX4_turnRight_30 rfl (lv_at hl 0 rfl) ?_
  refine va_get (D := D) (ci := 4) (v := .int (iI (nd))) (C := RX4) (T := TX4) (N := 10) hx hb hts UX4 hown hK hP 0 rfl rfl 1 (by decide) L46 (fun _ h9 => h9) rfl dX4_turnRight_31 ?_
  refine lv_aload_n hx hb dX4_turnRight_34 rfl (lv_at hl 1 rfl) ?_
  refine va_get (D := D) (ci := 7) (v := .int (iI (tu))) (C := RX7) (T := TX7) (N := 10) hx hb hts UX7 hown hK hP 1 rfl rfl 7 (by decide) L77 (fun _ h9 => h9) rfl dX4_turnRight_35 ?_
  refine j_iadd hx hb dX4_turnRight_38 ?_
  refine lv_bipush (v := iI (8)) hx hb dX4_turnRight_39 (by decide) ?_
  refine j_irem hx hb (by omega) dX4_turnRight_41 ?_
  refine va_put (D := D) (ci := 4) (v := .int (iI ((nd + tu) % 8))) (ty := .int) (C := RX4) (T := TX4) (N := 10) hx hb hts UX4 tyX4 tyX4_ok nmX4 hown hK hP hD hS 0 rfl rfl 1 (by decide) L46 (fun _ h9 => h9) rfl rfl rfl rfl (Nat.le_of_ble_eq_true rfl) dX4_turnRight_42 (fun H locs hP hD hS => ?_)
  have hP : va_P D vwCl [(h0, .inr (4, [.int (iI (nk)), .int (iI ((nd + tu) % 8)), .int (iI (nb)), .int (iI (nsp)), .int (iI (nst)), .int (iI (nmo)), .int (iI (ntu + 1)), .int (iI (nri)), .int (iI (srt Wi Hi g no nk nd (nro + 1))), .int (iI (nro + 1))])), (h1, .inr (7, [.ref h2, .int (iI (Wi)), .int (iI (Hi)), .int (iI (bl)), .int (iI (sc)), .int (iI (sd)), .int (iI (no)), .int (iI (tu)), .int (iI (be)), .int (iI (sp))])), (h2, .inl (cI, 256, .inl (aI g)))] H := hP
  have hD : va_D A [(h0, .inr (4, [.int (iI (nk)), .int (iI ((nd + tu) % 8)), .int (iI (nb)), .int (iI (nsp)), .int (iI (nst)), .int (iI (nmo)), .int (iI (ntu + 1)), .int (iI (nri)), .int (iI (srt Wi Hi g no nk nd (nro + 1))), .int (iI (nro + 1))])), (h1, .inr (7, [.ref h2, .int (iI (Wi)), .int (iI (Hi)), .int (iI (bl)), .int (iI (sc)), .int (iI (sd)), .int (iI (no)), .int (iI (tu)), .int (iI (be)), .int (iI (sp))])), (h2, .inl (cI, 256, .inl (aI g)))] := hD
  rw [hQ]; exact jm_vret () hx hb hr hlocks hS hP rfl trivial dX4_turnRight_45
abbrev rmX4_bendFoot : Room := { frames := 0, cells := 0, slots := 0, locals := 0 }
set_option maxHeartbeats 4000000 in
set_option maxRecDepth 100000 in
theorem c_X4_bendFoot (l : Launch) (D : va_G) (cI cZ : ClassId) (z : jZT) (h0 : Nat) (b9 nk nd nb nsp nst nmo ntu nri nla nro : Int) (hb9 : 0 ≤ b9 ∧ b9 < 10) (hnb : 0 ≤ nb ∧ nb < 9) (hnd : 0 ≤ nd ∧ nd < 8) : jMu (S := Int × Int) l yX4_bendFoot wsX4_bendFoot rmX4_bendFoot [.ref h0, .int (iI (b9))] D cI cZ z [(h0, .inr (4, [.int (iI (nk)), .int (iI (nd)), .int (iI (nb)), .int (iI (nsp)), .int (iI (nst)), .int (iI (nmo)), .int (iI (ntu)), .int (iI (nri)), .int (iI (nla)), .int (iI (nro))]))] (fun u => none) (fun u => u.1 = (if b9 ≤ nb + 1 then 0 else nb + 1) ∧ u.2 = if b9 ≤ nb + 1 then (nd + 1) % 8 else nd) (fun u => [(h0, .inr (4, [.int (iI (nk)), .int (iI (u.2)), .int (iI (u.1)), .int (iI (nsp)), .int (iI (nst)), .int (iI (nmo)), .int (iI (ntu)), .int (iI (nri)), .int (iI (nla)), .int (iI (nro))]))]) := by
  refine jMu_of (cc := cX4_bendFoot) (n := 2) (ret := none) (by decide) rfl (Nat.le_of_ble_eq_true rfl) ?_
  intro p e s m below meth c A ls args Q hQ F hA hZ hP hK hD hS hl
  obtain ⟨hx, hb, hr, hml, hown, hts, hlocks⟩ := F
  have hown : s.vm.findClass RX4 = some m.cls := hown
  have hl : lv_has ls 2 [(0, .ref h0), (1, .int (iI (b9)))] := hl
  have L49 := hts (.fieldLink RX4 49 "TinMouse$Now" "bent" "I") (by decide +kernel)
  have L46 := hts (.fieldLink RX4 46 "TinMouse$Now" "direction" "I") (by decide +kernel)
  have UX4 : ∀ w ∈ wsX40, w ∈ wsX4_bendFoot := fun w h => List.mem_cons_of_mem _ (List.mem_append_right _ h)
  refine lv_aload_n hx hb dX4_bendFoot_0 rfl (lv_at hl 0 rfl) ?_
  refine lv_dup hx hb dX4_bendFoot_1 rfl ?_
  refine va_get (D := D) (ci := 4) (v := .int (iI (nb))) (C := RX4) (T := TX4) (N := 10) hx hb hts UX4 hown hK hP 0 rfl rfl 2 (by decide) L49 (fun _ h9 => h9) rfl dX4_bendFoot_2 ?_
  refine lv_iconst (v := iI (1)) hx hb dX4_bendFoot_5 rfl ?_
  refine j_iadd hx hb dX4_bendFoot_6 ?_
  refine va_put (D := D) (ci := 4) (v := .int (iI (nb + 1))) (ty := .int) (C := RX4) (T := TX4) (N := 10) hx hb hts UX4 tyX4 tyX4_ok nmX4 hown hK hP hD hS 0 rfl rfl 2 (by decide) L49 (fun _ h9 => h9) rfl rfl rfl rfl (Nat.le_of_ble_eq_true rfl) dX4_bendFoot_7 (fun H locs hP hD hS => ?_)
  have hP : va_P D vwCl [(h0, .inr (4, [.int (iI (nk)), .int (iI (nd)), .int (iI (nb + 1)), .int (iI (nsp)), .int (iI (nst)), .int (iI (nmo)), .int (iI (ntu)), .int (iI (nri)), .int (iI (nla)), .int (iI (nro))]))] H := hP
  have hD : va_D A [(h0, .inr (4, [.int (iI (nk)), .int (iI (nd)), .int (iI (nb + 1)), .int (iI (nsp)), .int (iI (nst)), .int (iI (nmo)), .int (iI (ntu)), .int (iI (nri)), .int (iI (nla)), .int (iI (nro))]))] := hD
  refine lv_aload_n hx hb dX4_bendFoot_10 rfl (lv_at hl 0 rfl) ?_
  refine va_get (D := D) (ci := 4) (v := .int (iI (nb + 1))) (C := RX4) (T := TX4) (N := 10) hx hb hts UX4 hown hK hP 0 rfl rfl 2 (by decide) L49 (fun _ h9 => h9) rfl dX4_bendFoot_11 ?_
  refine lv_iload_n hx hb dX4_bendFoot_14 rfl (lv_at hl 1 rfl) ?_
  refine j_icmp_lt (tgt := 36) hx hb (by omega) dX4_bendFoot_15 (by decide) (fun c_15 => ?_) (fun c_15 => ?_)
  · rw [hQ]; exact jm_vret (nb + 1, nd) hx hb hr hlocks hS hP rfl (by (try dsimp only); omega) dX4_bendFoot_36
  · refine lv_aload_n hx hb dX4_bendFoot_18 rfl (lv_at hl 0 rfl) ?_
    refine lv_iconst (v := iI (0)) hx hb dX4_bendFoot_19 rfl ?_
    refine va_put (D := D) (ci := 4) (v := .int (iI (0))) (ty := .int) (C := RX4) (T := TX4) (N := 10) hx hb hts UX4 tyX4 tyX4_ok nmX4 hown hK hP hD hS 0 rfl rfl 2 (by decide) L49 (fun _ h9 => h9) rfl rfl rfl rfl (Nat.le_of_ble_eq_true rfl) dX4_bendFoot_20 (fun H locs hP hD hS => ?_)
    have hP : va_P D vwCl [(h0, .inr (4, [.int (iI (nk)), .int (iI (nd)), .int (iI (0)), .int (iI (nsp)), .int (iI (nst)), .int (iI (nmo)), .int (iI (ntu)), .int (iI (nri)), .int (iI (nla)), .int (iI (nro))]))] H := hP
    have hD : va_D A [(h0, .inr (4, [.int (iI (nk)), .int (iI (nd)), .int (iI (0)), .int (iI (nsp)), .int (iI (nst)), .int (iI (nmo)), .int (iI (ntu)), .int (iI (nri)), .int (iI (nla)), .int (iI (nro))]))] := hD
    refine lv_aload_n hx hb dX4_bendFoot_23 rfl (lv_at hl 0 rfl) ?_
    refine lv_aload_n hx hb dX4_bendFoot_24 rfl (lv_at hl 0 rfl) ?_
    refine va_get (D := D) (ci := 4) (v := .int (iI (nd))) (C := RX4) (T := TX4) (N := 10) hx hb hts UX4 hown hK hP 0 rfl rfl 1 (by decide) L46 (fun _ h9 => h9) rfl dX4_bendFoot_25 ?_
    refine lv_iconst (v := iI (1)) hx hb dX4_bendFoot_28 rfl ?_
    refine j_iadd hx hb dX4_bendFoot_29 ?_
    refine lv_bipush (v := iI (8)) hx hb dX4_bendFoot_30 (by decide) ?_
    refine j_irem hx hb (by omega) dX4_bendFoot_32 ?_
    refine va_put (D := D) (ci := 4) (v := .int (iI ((nd + 1) % 8))) (ty := .int) (C := RX4) (T := TX4) (N := 10) hx hb hts UX4 tyX4 tyX4_ok nmX4 hown hK hP hD hS 0 rfl rfl 1 (by decide) L46 (fun _ h9 => h9) rfl rfl rfl rfl (Nat.le_of_ble_eq_true rfl) dX4_bendFoot_33 (fun H locs hP hD hS => ?_)
    have hP : va_P D vwCl [(h0, .inr (4, [.int (iI (nk)), .int (iI ((nd + 1) % 8)), .int (iI (0)), .int (iI (nsp)), .int (iI (nst)), .int (iI (nmo)), .int (iI (ntu)), .int (iI (nri)), .int (iI (nla)), .int (iI (nro))]))] H := hP
    have hD : va_D A [(h0, .inr (4, [.int (iI (nk)), .int (iI ((nd + 1) % 8)), .int (iI (0)), .int (iI (nsp)), .int (iI (nst)), .int (iI (nmo)), .int (iI (ntu)), .int (iI (nri)), .int (iI (nla)), .int (iI (nro))]))] := hD
    rw [hQ]; exact jm_vret (0, (nd + 1) % 8) hx hb hr hlocks hS hP rfl (by (try dsimp only); omega) dX4_bendFoot_36
theorem hsX4_bendFoot : yX4_bendFoot.cls ≠ "java/lang/invoke/MethodHandle" ∧ yX4_bendFoot.cls ≠ "java/lang/invoke/VarHandle" ∧ (parseMethodDescriptor yX4_bendFoot.desc).map (fun d => d.parameters.length) = some 1 := by decide +kernel
theorem hvX4_bendFoot : yX4_bendFoot.cls = RX4 ∧ yX4_bendFoot.cls ≠ "java/lang/invoke/MethodHandle" ∧ yX4_bendFoot.cls ≠ "java/lang/invoke/VarHandle" ∧ (parseMethodDescriptor yX4_bendFoot.desc).map (fun d => d.parameters.length) = some 1 := ⟨rfl, hsX4_bendFoot⟩
abbrev rmX4_moveOn : Room := { frames := 2, cells := 0, slots := 0, locals := 47 }
set_option maxHeartbeats 4000000 in
set_option maxRecDepth 100000 in
theorem c_X4_moveOn (l : Launch) (D : va_G) (cI cZ : ClassId) (z : jZT) (h0 h1 h2 : Nat) (nk nd nb nsp nst nmo ntu nri nla nro Wi Hi bl sc sd no tu be sp : Int) (g : Int → Int) (hW : 3 ≤ Wi ∧ Wi ≤ 16) (hH : 3 ≤ Hi ∧ Hi ≤ 16) (hg : ∀ j : Int, 0 ≤ j → j < 256 → 0 ≤ g j ∧ g j ≤ 2) (hno : 1 ≤ no ∧ no ≤ 3) (hbe : 0 ≤ be ∧ be ≤ 9) (hbl : -9 ≤ bl ∧ bl < 256) (hnk : -9 ≤ nk ∧ nk < 256) (hnd : 0 ≤ nd ∧ nd < 8) (hnb : 0 ≤ nb ∧ nb < 9) : jMu (S := Int × Int × Int) l yX4_moveOn wsX4_moveOn rmX4_moveOn [.ref h0, .ref h1] D cI cZ z [(h0, .inr (4, [.int (iI (nk)), .int (iI (nd)), .int (iI (nb)), .int (iI (nsp)), .int (iI (nst)), .int (iI (nmo)), .int (iI (ntu)), .int (iI (nri)), .int (iI (nla)), .int (iI (nro))])), (h1, .inr (7, [.ref h2, .int (iI (Wi)), .int (iI (Hi)), .int (iI (bl)), .int (iI (sc)), .int (iI (sd)), .int (iI (no)), .int (iI (tu)), .int (iI (be)), .int (iI (sp))])), (h2, .inl (cI, 256, .inl (aI g)))] (fun u => none) (fun u => u.2.1 = (if isWd Wi Hi g (offI Wi Hi nk nd 1) = true then (if 0 < be ∧ be ≤ nb + 1 then (nd + 1) % 8 else nd) else nd) ∧ u.1 = (if isWd Wi Hi g (offI Wi Hi nk nd 1) = true then (if 0 < be then (if be ≤ nb + 1 then 0 else nb + 1) else nb) else nb) ∧ u.2.2 = if isWd Wi Hi g (offI Wi Hi nk nd 1) = true then (if offI Wi Hi nk nd 1 = bl then nri + 1 else nri) else nri) (fun u => [(h0, .inr (4, [.int (iI (offI Wi Hi nk nd 1)), .int (iI (u.2.1)), .int (iI (u.1)), .int (iI (nsp)), .int (iI (nst)), .int (iI (nmo + 1)), .int (iI (ntu)), .int (iI (u.2.2)), .int (iI (nla)), .int (iI (0))])), (h1, .inr (7, [.ref h2, .int (iI (Wi)), .int (iI (Hi)), .int (iI (bl)), .int (iI (sc)), .int (iI (sd)), .int (iI (no)), .int (iI (tu)), .int (iI (be)), .int (iI (sp))])), (h2, .inl (cI, 256, .inl (aI g)))]) := by
  refine jMu_of (cc := cX4_moveOn) (n := 2) (ret := none) (by decide) rfl (Nat.le_of_ble_eq_true rfl) ?_
  intro p e s m below meth c A ls args Q hQ F hA hZ hP hK hD hS hl
  obtain ⟨hx, hb, hr, hml, hown, hts, hlocks⟩ := F
  have hown : s.vm.findClass RX4 = some m.cls := hown
  have hl : lv_has ls 2 [(0, .ref h0), (1, .ref h1)] := hl
  have L31 := hts (.fieldLink RX4 31 "TinMouse$Now" "moves" "I") (by decide +kernel)
  have L52 := hts (.fieldLink RX4 52 "TinMouse$Now" "row" "I") (by decide +kernel)
  have L43 := hts (.fieldLink RX4 43 "TinMouse$Now" "cell" "I") (by decide +kernel)
  have L46 := hts (.fieldLink RX4 46 "TinMouse$Now" "direction" "I") (by decide +kernel)
  have L91 := hts (.fieldLink RX4 91 "TinMouse$Table" "bend" "I") (by decide +kernel)
  have L98 := hts (.fieldLink RX4 98 "TinMouse$Table" "bell" "I") (by decide +kernel)
  have L37 := hts (.fieldLink RX4 37 "TinMouse$Now" "rings" "I") (by decide +kernel)
  have UX4 : ∀ w ∈ wsX40, w ∈ wsX4_moveOn := fun w h => List.mem_cons_of_mem _ (List.mem_append_left _ (List.mem_append_right _ h))
  have UX7 : ∀ w ∈ wsX70, w ∈ wsX4_moveOn := fun w h => List.mem_cons_of_mem _ (List.mem_append_right _ h)
  have hwh := wh_rng hW hH
  have ho1 := offI_rng hW hH nk nd 1
  refine lv_aload_n hx hb dX4_moveOn_0 rfl (lv_at hl 0 rfl) ?_
  refine lv_dup hx hb dX4_moveOn_1 rfl ?_
  refine va_get (D := D) (ci := 4) (v := .int (iI (nmo))) (C := RX4) (T := TX4) (N := 10) hx hb hts UX4 hown hK hP 0 rfl rfl 5 (by decide) L31 (fun _ h9 => h9) rfl dX4_moveOn_2 ?_
  refine lv_iconst (v := iI (1)) hx hb dX4_moveOn_5 rfl ?_
  refine j_iadd hx hb dX4_moveOn_6 ?_
  refine va_put (D := D) (ci := 4) (v := .int (iI (nmo + 1))) (ty := .int) (C := RX4) (T := TX4) (N := 10) hx hb hts UX4 tyX4 tyX4_ok nmX4 hown hK hP hD hS 0 rfl rfl 5 (by decide) L31 (fun _ h9 => h9) rfl rfl rfl rfl (Nat.le_of_ble_eq_true rfl) dX4_moveOn_7 (fun H locs hP hD hS => ?_)
  have hP : va_P D vwCl [(h0, .inr (4, [.int (iI (nk)), .int (iI (nd)), .int (iI (nb)), .int (iI (nsp)), .int (iI (nst)), .int (iI (nmo + 1)), .int (iI (ntu)), .int (iI (nri)), .int (iI (nla)), .int (iI (nro))])), (h1, .inr (7, [.ref h2, .int (iI (Wi)), .int (iI (Hi)), .int (iI (bl)), .int (iI (sc)), .int (iI (sd)), .int (iI (no)), .int (iI (tu)), .int (iI (be)), .int (iI (sp))])), (h2, .inl (cI, 256, .inl (aI g)))] H := hP
  have hD : va_D A [(h0, .inr (4, [.int (iI (nk)), .int (iI (nd)), .int (iI (nb)), .int (iI (nsp)), .int (iI (nst)), .int (iI (nmo + 1)), .int (iI (ntu)), .int (iI (nri)), .int (iI (nla)), .int (iI (nro))])), (h1, .inr (7, [.ref h2, .int (iI (Wi)), .int (iI (Hi)), .int (iI (bl)), .int (iI (sc)), .int (iI (sd)), .int (iI (no)), .int (iI (tu)), .int (iI (be)), .int (iI (sp))])), (h2, .inl (cI, 256, .inl (aI g)))] := hD
  refine lv_aload_n hx hb dX4_moveOn_10 rfl (lv_at hl 0 rfl) ?_
  refine lv_iconst (v := iI (0)) hx hb dX4_moveOn_11 rfl ?_
  refine va_put (D := D) (ci := 4) (v := .int (iI (0))) (ty := .int) (C := RX4) (T := TX4) (N := 10) hx hb hts UX4 tyX4 tyX4_ok nmX4 hown hK hP hD hS 0 rfl rfl 9 (by decide) L52 (fun _ h9 => h9) rfl rfl rfl rfl (Nat.le_of_ble_eq_true rfl) dX4_moveOn_12 (fun H locs hP hD hS => ?_)
  have hP : va_P D vwCl [(h0, .inr (4, [.int (iI (nk)), .int (iI (nd)), .int (iI (nb)), .int (iI (nsp)), .int (iI (nst)), .int (iI (nmo + 1)), .int (iI (ntu)), .int (iI (nri)), .int (iI (nla)), .int (iI (0))])), (h1, .inr (7, [.ref h2, .int (iI (Wi)), .int (iI (Hi)), .int (iI (bl)), .int (iI (sc)), .int (iI (sd)), .int (iI (no)), .int (iI (tu)), .int (iI (be)), .int (iI (sp))])), (h2, .inl (cI, 256, .inl (aI g)))] H := hP
  have hD : va_D A [(h0, .inr (4, [.int (iI (nk)), .int (iI (nd)), .int (iI (nb)), .int (iI (nsp)), .int (iI (nst)), .int (iI (nmo + 1)), .int (iI (ntu)), .int (iI (nri)), .int (iI (nla)), .int (iI (0))])), (h1, .inr (7, [.ref h2, .int (iI (Wi)), .int (iI (Hi)), .int (iI (bl)), .int (iI (sc)), .int (iI (sd)), .int (iI (no)), .int (iI (tu)), .int (iI (be)), .int (iI (sp))])), (h2, .inl (cI, 256, .inl (aI g)))] := hD
  refine lv_aload_n hx hb dX4_moveOn_15 rfl (lv_at hl 0 rfl) ?_
  refine lv_aload_n hx hb dX4_moveOn_16 rfl (lv_at hl 1 rfl) ?_
  refine lv_aload_n hx hb dX4_moveOn_17 rfl (lv_at hl 0 rfl) ?_
  refine va_get (D := D) (ci := 4) (v := .int (iI (nk))) (C := RX4) (T := TX4) (N := 10) hx hb hts UX4 hown hK hP 0 rfl rfl 0 (by decide) L43 (fun _ h9 => h9) rfl dX4_moveOn_18 ?_
  refine lv_aload_n hx hb dX4_moveOn_21 rfl (lv_at hl 0 rfl) ?_
  refine va_get (D := D) (ci := 4) (v := .int (iI (nd))) (C := RX4) (T := TX4) (N := 10) hx hb hts UX4 hown hK hP 0 rfl rfl 1 (by decide) L46 (fun _ h9 => h9) rfl dX4_moveOn_22 ?_
  refine lv_iconst (v := iI (1)) hx hb dX4_moveOn_25 rfl ?_
  refine j_rd (va_runV (As := [.int (iI (nk)), .int (iI (nd)), .int (iI (1))]) (rest := [.ref h0]) ⟨hx, hb, hml, hown, hts⟩ (c_X7_off l D cI cZ z h1 h2 nk nd 1 Wi Hi bl sc sd no tu be sp g (by first | assumption | omega) (by first | assumption | omega) (by first | assumption | omega) (by first | assumption | omega) (by first | assumption | omega) H.size) (cwV 3 hts gX4_moveOn_X7_off rfl rfl rfl hvX7_off ⟨Nat.le_of_ble_eq_true rfl, Nat.le_of_ble_eq_true rfl⟩) (j_preV hP hD hK hS hZ hA [1, 2] rfl rfl 1 rfl rfl) rfl rfl hl.1 rfl (lv_room (Nat.le_of_ble_eq_true rfl)) dX4_moveOn_26 ⟨Nat.zero_le _, Nat.zero_le _⟩) ?_
  refine va_put (D := D) (ci := 4) (v := .int (iI (offI Wi Hi nk nd 1))) (ty := .int) (C := RX4) (T := TX4) (N := 10) hx hb hts UX4 tyX4 tyX4_ok nmX4 hown hK hP hD hS 0 rfl rfl 0 (by decide) L43 (fun _ h9 => h9) rfl rfl rfl rfl (Nat.le_of_ble_eq_true rfl) dX4_moveOn_29 (fun H locs hP hD hS => ?_)
  have hP : va_P D vwCl [(h0, .inr (4, [.int (iI (offI Wi Hi nk nd 1)), .int (iI (nd)), .int (iI (nb)), .int (iI (nsp)), .int (iI (nst)), .int (iI (nmo + 1)), .int (iI (ntu)), .int (iI (nri)), .int (iI (nla)), .int (iI (0))])), (h1, .inr (7, [.ref h2, .int (iI (Wi)), .int (iI (Hi)), .int (iI (bl)), .int (iI (sc)), .int (iI (sd)), .int (iI (no)), .int (iI (tu)), .int (iI (be)), .int (iI (sp))])), (h2, .inl (cI, 256, .inl (aI g)))] H := hP
  have hD : va_D A [(h0, .inr (4, [.int (iI (offI Wi Hi nk nd 1)), .int (iI (nd)), .int (iI (nb)), .int (iI (nsp)), .int (iI (nst)), .int (iI (nmo + 1)), .int (iI (ntu)), .int (iI (nri)), .int (iI (nla)), .int (iI (0))])), (h1, .inr (7, [.ref h2, .int (iI (Wi)), .int (iI (Hi)), .int (iI (bl)), .int (iI (sc)), .int (iI (sd)), .int (iI (no)), .int (iI (tu)), .int (iI (be)), .int (iI (sp))])), (h2, .inl (cI, 256, .inl (aI g)))] := hD
  refine lv_aload_n hx hb dX4_moveOn_32 rfl (lv_at hl 1 rfl) ?_
  refine lv_aload_n hx hb dX4_moveOn_33 rfl (lv_at hl 0 rfl) ?_
  refine va_get (D := D) (ci := 4) (v := .int (iI (offI Wi Hi nk nd 1))) (C := RX4) (T := TX4) (N := 10) hx hb hts UX4 hown hK hP 0 rfl rfl 0 (by decide) L43 (fun _ h9 => h9) rfl dX4_moveOn_34 ?_
  refine j_rd (va_runV (As := [.int (iI (offI Wi Hi nk nd 1))]) (rest := []) ⟨hx, hb, hml, hown, hts⟩ (c_X7_isWood l D cI cZ z h1 h2 (offI Wi Hi nk nd 1) Wi Hi bl sc sd no tu be sp g (by first | assumption | omega) (by first | assumption | omega) (by first | assumption | omega) (by first | assumption | omega) H.size) (cwV 1 hts gX4_moveOn_X7_isWood rfl rfl rfl hvX7_isWood ⟨Nat.le_of_ble_eq_true rfl, Nat.le_of_ble_eq_true rfl⟩) (j_preV hP hD hK hS hZ hA [1, 2] rfl rfl 1 rfl rfl) rfl rfl hl.1 rfl (lv_room (Nat.le_of_ble_eq_true rfl)) dX4_moveOn_37 ⟨Nat.zero_le _, Nat.zero_le _⟩) ?_
  refine j_ifne_b (tgt := 44) hx hb dX4_moveOn_40 (by decide) (fun c_40 => ?_) (fun c_40 => ?_)
  · refine lv_aload_n hx hb dX4_moveOn_44 rfl (lv_at hl 1 rfl) ?_
    refine va_get (D := D) (ci := 7) (v := .int (iI (be))) (C := RX7) (T := TX7) (N := 10) hx hb hts UX7 hown hK hP 1 rfl rfl 8 (by decide) L91 (fun _ h9 => h9) rfl dX4_moveOn_45 ?_
    refine j_if_le (tgt := 59) hx hb (by omega) dX4_moveOn_48 (by decide) (fun c_48 => ?_) (fun c_48 => ?_)
    · refine lv_aload_n hx hb dX4_moveOn_59 rfl (lv_at hl 0 rfl) ?_
      refine va_get (D := D) (ci := 4) (v := .int (iI (offI Wi Hi nk nd 1))) (C := RX4) (T := TX4) (N := 10) hx hb hts UX4 hown hK hP 0 rfl rfl 0 (by decide) L43 (fun _ h9 => h9) rfl dX4_moveOn_60 ?_
      refine lv_aload_n hx hb dX4_moveOn_63 rfl (lv_at hl 1 rfl) ?_
      refine va_get (D := D) (ci := 7) (v := .int (iI (bl))) (C := RX7) (T := TX7) (N := 10) hx hb hts UX7 hown hK hP 1 rfl rfl 3 (by decide) L98 (fun _ h9 => h9) rfl dX4_moveOn_64 ?_
      refine j_icmp_ne (tgt := 80) hx hb (by omega) dX4_moveOn_67 (by decide) (fun c_67 => ?_) (fun c_67 => ?_)
      · rw [hQ]; exact jm_vret (nb, nd, nri) hx hb hr hlocks hS hP rfl (by (try dsimp only); simp only [c_40, if_true, if_false, Bool.false_eq_true]; first | omega | simp) dX4_moveOn_80
      · refine lv_aload_n hx hb dX4_moveOn_70 rfl (lv_at hl 0 rfl) ?_
        refine lv_dup hx hb dX4_moveOn_71 rfl ?_
        refine va_get (D := D) (ci := 4) (v := .int (iI (nri))) (C := RX4) (T := TX4) (N := 10) hx hb hts UX4 hown hK hP 0 rfl rfl 7 (by decide) L37 (fun _ h9 => h9) rfl dX4_moveOn_72 ?_
        refine lv_iconst (v := iI (1)) hx hb dX4_moveOn_75 rfl ?_
        refine j_iadd hx hb dX4_moveOn_76 ?_
        refine va_put (D := D) (ci := 4) (v := .int (iI (nri + 1))) (ty := .int) (C := RX4) (T := TX4) (N := 10) hx hb hts UX4 tyX4 tyX4_ok nmX4 hown hK hP hD hS 0 rfl rfl 7 (by decide) L37 (fun _ h9 => h9) rfl rfl rfl rfl (Nat.le_of_ble_eq_true rfl) dX4_moveOn_77 (fun H locs hP hD hS => ?_)
        have hP : va_P D vwCl [(h0, .inr (4, [.int (iI (offI Wi Hi nk nd 1)), .int (iI (nd)), .int (iI (nb)), .int (iI (nsp)), .int (iI (nst)), .int (iI (nmo + 1)), .int (iI (ntu)), .int (iI (nri + 1)), .int (iI (nla)), .int (iI (0))])), (h1, .inr (7, [.ref h2, .int (iI (Wi)), .int (iI (Hi)), .int (iI (bl)), .int (iI (sc)), .int (iI (sd)), .int (iI (no)), .int (iI (tu)), .int (iI (be)), .int (iI (sp))])), (h2, .inl (cI, 256, .inl (aI g)))] H := hP
        have hD : va_D A [(h0, .inr (4, [.int (iI (offI Wi Hi nk nd 1)), .int (iI (nd)), .int (iI (nb)), .int (iI (nsp)), .int (iI (nst)), .int (iI (nmo + 1)), .int (iI (ntu)), .int (iI (nri + 1)), .int (iI (nla)), .int (iI (0))])), (h1, .inr (7, [.ref h2, .int (iI (Wi)), .int (iI (Hi)), .int (iI (bl)), .int (iI (sc)), .int (iI (sd)), .int (iI (no)), .int (iI (tu)), .int (iI (be)), .int (iI (sp))])), (h2, .inl (cI, 256, .inl (aI g)))] := hD
        rw [hQ]; exact jm_vret (nb, nd, nri + 1) hx hb hr hlocks hS hP rfl (by (try dsimp only); simp only [c_40, if_true, if_false, Bool.false_eq_true]; first | omega | simp) dX4_moveOn_80
    · refine lv_aload_n hx hb dX4_moveOn_51 rfl (lv_at hl 0 rfl) ?_
      refine lv_aload_n hx hb dX4_moveOn_52 rfl (lv_at hl 1 rfl) ?_
      refine va_get (D := D) (ci := 7) (v := .int (iI (be))) (C := RX7) (T := TX7) (N := 10) hx hb hts UX7 hown hK hP 1 rfl rfl 8 (by decide) L91 (fun _ h9 => h9) rfl dX4_moveOn_53 ?_
      refine j_muv (va_runV (As := [.int (iI (be))]) (rest := []) ⟨hx, hb, hml, hown, hts⟩ (c_X4_bendFoot l D cI cZ z h0 be (offI Wi Hi nk nd 1) nd nb nsp nst (nmo + 1) ntu nri nla 0 (by first | assumption | omega) (by first | assumption | omega) (by first | assumption | omega) H.size) (cwV 1 hts gX4_moveOn_X4_bendFoot rfl rfl rfl hvX4_bendFoot ⟨Nat.le_of_ble_eq_true rfl, Nat.le_of_ble_eq_true rfl⟩) (j_preV hP hD hK hS hZ hA [0] rfl rfl 0 rfl rfl) rfl rfl hl.1 rfl (lv_room (Nat.le_of_ble_eq_true rfl)) dX4_moveOn_56 ⟨Nat.zero_le _, Nat.zero_le _⟩) hP hD hS hA [0] rfl (fun _ => rfl) (fun u_9 H locs hw_56 hP hD hS => ?_)
      obtain ⟨nb2_1, nd2_2⟩ := u_9
      dsimp only at hw_56
      have hP : va_P D vwCl [(h0, .inr (4, [.int (iI ((offI Wi Hi nk nd 1))), .int (iI (nd2_2)), .int (iI (nb2_1)), .int (iI (nsp)), .int (iI (nst)), .int (iI ((nmo + 1))), .int (iI (ntu)), .int (iI (nri)), .int (iI (nla)), .int (iI (0))])), (h1, .inr (7, [.ref h2, .int (iI (Wi)), .int (iI (Hi)), .int (iI (bl)), .int (iI (sc)), .int (iI (sd)), .int (iI (no)), .int (iI (tu)), .int (iI (be)), .int (iI (sp))])), (h2, .inl (cI, 256, .inl (aI g)))] H := hP
      have hD : va_D A [(h0, .inr (4, [.int (iI ((offI Wi Hi nk nd 1))), .int (iI (nd2_2)), .int (iI (nb2_1)), .int (iI (nsp)), .int (iI (nst)), .int (iI ((nmo + 1))), .int (iI (ntu)), .int (iI (nri)), .int (iI (nla)), .int (iI (0))])), (h1, .inr (7, [.ref h2, .int (iI (Wi)), .int (iI (Hi)), .int (iI (bl)), .int (iI (sc)), .int (iI (sd)), .int (iI (no)), .int (iI (tu)), .int (iI (be)), .int (iI (sp))])), (h2, .inl (cI, 256, .inl (aI g)))] := hD
      obtain ⟨hwa_56, hwb_56⟩ := hw_56
      refine lv_aload_n hx hb dX4_moveOn_59 rfl (lv_at hl 0 rfl) ?_
      refine va_get (D := D) (ci := 4) (v := .int (iI ((offI Wi Hi nk nd 1)))) (C := RX4) (T := TX4) (N := 10) hx hb hts UX4 hown hK hP 0 rfl rfl 0 (by decide) L43 (fun _ h9 => h9) rfl dX4_moveOn_60 ?_
      refine lv_aload_n hx hb dX4_moveOn_63 rfl (lv_at hl 1 rfl) ?_
      refine va_get (D := D) (ci := 7) (v := .int (iI (bl))) (C := RX7) (T := TX7) (N := 10) hx hb hts UX7 hown hK hP 1 rfl rfl 3 (by decide) L98 (fun _ h9 => h9) rfl dX4_moveOn_64 ?_
      refine j_icmp_ne (tgt := 80) hx hb (by omega) dX4_moveOn_67 (by decide) (fun c_67_1 => ?_) (fun c_67_1 => ?_)
      · rw [hQ]; exact jm_vret (nb2_1, nd2_2, nri) hx hb hr hlocks hS hP rfl (by (try dsimp only); simp only [c_40, if_true, if_false, Bool.false_eq_true]; first | omega | simp) dX4_moveOn_80
      · refine lv_aload_n hx hb dX4_moveOn_70 rfl (lv_at hl 0 rfl) ?_
        refine lv_dup hx hb dX4_moveOn_71 rfl ?_
        refine va_get (D := D) (ci := 4) (v := .int (iI (nri))) (C := RX4) (T := TX4) (N := 10) hx hb hts UX4 hown hK hP 0 rfl rfl 7 (by decide) L37 (fun _ h9 => h9) rfl dX4_moveOn_72 ?_
        refine lv_iconst (v := iI (1)) hx hb dX4_moveOn_75 rfl ?_
        refine j_iadd hx hb dX4_moveOn_76 ?_
        refine va_put (D := D) (ci := 4) (v := .int (iI (nri + 1))) (ty := .int) (C := RX4) (T := TX4) (N := 10) hx hb hts UX4 tyX4 tyX4_ok nmX4 hown hK hP hD hS 0 rfl rfl 7 (by decide) L37 (fun _ h9 => h9) rfl rfl rfl rfl (Nat.le_of_ble_eq_true rfl) dX4_moveOn_77 (fun H locs hP hD hS => ?_)
        have hP : va_P D vwCl [(h0, .inr (4, [.int (iI ((offI Wi Hi nk nd 1))), .int (iI (nd2_2)), .int (iI (nb2_1)), .int (iI (nsp)), .int (iI (nst)), .int (iI ((nmo + 1))), .int (iI (ntu)), .int (iI (nri + 1)), .int (iI (nla)), .int (iI (0))])), (h1, .inr (7, [.ref h2, .int (iI (Wi)), .int (iI (Hi)), .int (iI (bl)), .int (iI (sc)), .int (iI (sd)), .int (iI (no)), .int (iI (tu)), .int (iI (be)), .int (iI (sp))])), (h2, .inl (cI, 256, .inl (aI g)))] H := hP
        have hD : va_D A [(h0, .inr (4, [.int (iI ((offI Wi Hi nk nd 1))), .int (iI (nd2_2)), .int (iI (nb2_1)), .int (iI (nsp)), .int (iI (nst)), .int (iI ((nmo + 1))), .int (iI (ntu)), .int (iI (nri + 1)), .int (iI (nla)), .int (iI (0))])), (h1, .inr (7, [.ref h2, .int (iI (Wi)), .int (iI (Hi)), .int (iI (bl)), .int (iI (sc)), .int (iI (sd)), .int (iI (no)), .int (iI (tu)), .int (iI (be)), .int (iI (sp))])), (h2, .inl (cI, 256, .inl (aI g)))] := hD
        rw [hQ]; exact jm_vret (nb2_1, nd2_2, nri + 1) hx hb hr hlocks hS hP rfl (by (try dsimp only); simp only [c_40, if_true, if_false, Bool.false_eq_true]; first | omega | simp) dX4_moveOn_80
  · rw [hQ]; exact jm_vret (nb, nd, nri) hx hb hr hlocks hS hP rfl (by (try dsimp only); simp only [c_40, if_true, if_false, Bool.false_eq_true]; first | omega | simp) dX4_moveOn_43
theorem hsX4_moveOn : yX4_moveOn.cls ≠ "java/lang/invoke/MethodHandle" ∧ yX4_moveOn.cls ≠ "java/lang/invoke/VarHandle" ∧ (parseMethodDescriptor yX4_moveOn.desc).map (fun d => d.parameters.length) = some 1 := by decide +kernel
theorem hvX4_moveOn : yX4_moveOn.cls = RX4 ∧ yX4_moveOn.cls ≠ "java/lang/invoke/MethodHandle" ∧ yX4_moveOn.cls ≠ "java/lang/invoke/VarHandle" ∧ (parseMethodDescriptor yX4_moveOn.desc).map (fun d => d.parameters.length) = some 1 := ⟨rfl, hsX4_moveOn⟩
theorem hsX4_turnRight : yX4_turnRight.cls ≠ "java/lang/invoke/MethodHandle" ∧ yX4_turnRight.cls ≠ "java/lang/invoke/VarHandle" ∧ (parseMethodDescriptor yX4_turnRight.desc).map (fun d => d.parameters.length) = some 1 := by decide +kernel
theorem hvX4_turnRight : yX4_turnRight.cls = RX4 ∧ yX4_turnRight.cls ≠ "java/lang/invoke/MethodHandle" ∧ yX4_turnRight.cls ≠ "java/lang/invoke/VarHandle" ∧ (parseMethodDescriptor yX4_turnRight.desc).map (fun d => d.parameters.length) = some 1 := ⟨rfl, hsX4_turnRight⟩
abbrev rmX4_step : Room := { frames := 5, cells := 0, slots := 0, locals := 111 }
set_option maxHeartbeats 4000000 in
set_option maxRecDepth 100000 in
theorem c_X4_step (l : Launch) (D : va_G) (cI cZ : ClassId) (z : jZT) (h0 h1 h2 : Nat) (nk nd nb nsp nst nmo ntu nri nla nro Wi Hi bl sc sd no tu be sp : Int) (g : Int → Int) (hW : 3 ≤ Wi ∧ Wi ≤ 16) (hH : 3 ≤ Hi ∧ Hi ≤ 16) (hg : ∀ j : Int, 0 ≤ j → j < 256 → 0 ≤ g j ∧ g j ≤ 2) (hno : 1 ≤ no ∧ no ≤ 3) (htu : 1 ≤ tu ∧ tu ≤ 7) (hbe : 0 ≤ be ∧ be ≤ 9) (hbl : -9 ≤ bl ∧ bl < 256) (hnk : -9 ≤ nk ∧ nk < 256) (hnd : 0 ≤ nd ∧ nd < 8) (hnb : 0 ≤ nb ∧ nb < 9) (hro : 0 ≤ nro ∧ nro < 2147483647) : jMu (S := Int × Int × Int × Int × Int × Int × Int × Int × Int × Int) l yX4_step wsX4_step rmX4_step [.ref h0, .ref h1] D cI cZ z [(h0, .inr (4, [.int (iI (nk)), .int (iI (nd)), .int (iI (nb)), .int (iI (nsp)), .int (iI (nst)), .int (iI (nmo)), .int (iI (ntu)), .int (iI (nri)), .int (iI (nla)), .int (iI (nro))])), (h1, .inr (7, [.ref h2, .int (iI (Wi)), .int (iI (Hi)), .int (iI (bl)), .int (iI (sc)), .int (iI (sd)), .int (iI (no)), .int (iI (tu)), .int (iI (be)), .int (iI (sp))])), (h2, .inl (cI, 256, .inl (aI g)))] (fun u => none) (fun u => (u.1, u.2.1, u.2.2.1, u.2.2.2.1, u.2.2.2.2.1, u.2.2.2.2.2.1, u.2.2.2.2.2.2.1, u.2.2.2.2.2.2.2.1, u.2.2.2.2.2.2.2.2.1, u.2.2.2.2.2.2.2.2.2) = stpN (Wi, Hi, g, no, tu, be, bl) (nk, nd, nb, nsp, nst, nmo, ntu, nri, nla, nro)) (fun u => [(h0, .inr (4, [.int (iI (u.1)), .int (iI (u.2.1)), .int (iI (u.2.2.1)), .int (iI (u.2.2.2.1)), .int (iI (u.2.2.2.2.1)), .int (iI (u.2.2.2.2.2.1)), .int (iI (u.2.2.2.2.2.2.1)), .int (iI (u.2.2.2.2.2.2.2.1)), .int (iI (u.2.2.2.2.2.2.2.2.1)), .int (iI (u.2.2.2.2.2.2.2.2.2))])), (h1, .inr (7, [.ref h2, .int (iI (Wi)), .int (iI (Hi)), .int (iI (bl)), .int (iI (sc)), .int (iI (sd)), .int (iI (no)), .int (iI (tu)), .int (iI (be)), .int (iI (sp))])), (h2, .inl (cI, 256, .inl (aI g)))]) := by
  refine jMu_of (cc := cX4_step) (n := 2) (ret := none) (by decide) rfl (Nat.le_of_ble_eq_true rfl) ?_
  intro p e s m below meth c A ls args Q hQ F hA hZ hP hK hD hS hl
  obtain ⟨hx, hb, hr, hml, hown, hts, hlocks⟩ := F
  have hown : s.vm.findClass RX4 = some m.cls := hown
  have hl : lv_has ls 2 [(0, .ref h0), (1, .ref h1)] := hl
  have L27 := hts (.fieldLink RX4 27 "TinMouse$Now" "spring" "I") (by decide +kernel)
  have L28 := hts (.fieldLink RX4 28 "TinMouse$Now" "steps" "I") (by decide +kernel)
  have L43 := hts (.fieldLink RX4 43 "TinMouse$Now" "cell" "I") (by decide +kernel)
  have L46 := hts (.fieldLink RX4 46 "TinMouse$Now" "direction" "I") (by decide +kernel)
  have L59 := hts (.fieldLink RX4 59 "TinMouse$Table" "nose" "I") (by decide +kernel)
  have UX4 : ∀ w ∈ wsX40, w ∈ wsX4_step := fun w h => List.mem_cons_of_mem _ (List.mem_append_left _ (List.mem_append_right _ h))
  have UX7 : ∀ w ∈ wsX70, w ∈ wsX4_step := fun w h => List.mem_cons_of_mem _ (List.mem_append_right _ h)
  refine lv_aload_n hx hb dX4_step_0 rfl (lv_at hl 0 rfl) ?_
  refine lv_dup hx hb dX4_step_1 rfl ?_
  refine va_get (D := D) (ci := 4) (v := .int (iI (nsp))) (C := RX4) (T := TX4) (N := 10) hx hb hts UX4 hown hK hP 0 rfl rfl 3 (by decide) L27 (fun _ h9 => h9) rfl dX4_step_2 ?_
  refine lv_iconst (v := iI (1)) hx hb dX4_step_5 rfl ?_
  refine j_isub hx hb dX4_step_6 ?_
  refine va_put (D := D) (ci := 4) (v := .int (iI (nsp - 1))) (ty := .int) (C := RX4) (T := TX4) (N := 10) hx hb hts UX4 tyX4 tyX4_ok nmX4 hown hK hP hD hS 0 rfl rfl 3 (by decide) L27 (fun _ h9 => h9) rfl rfl rfl rfl (Nat.le_of_ble_eq_true rfl) dX4_step_7 (fun H locs hP hD hS => ?_)
  have hP : va_P D vwCl [(h0, .inr (4, [.int (iI (nk)), .int (iI (nd)), .int (iI (nb)), .int (iI (nsp - 1)), .int (iI (nst)), .int (iI (nmo)), .int (iI (ntu)), .int (iI (nri)), .int (iI (nla)), .int (iI (nro))])), (h1, .inr (7, [.ref h2, .int (iI (Wi)), .int (iI (Hi)), .int (iI (bl)), .int (iI (sc)), .int (iI (sd)), .int (iI (no)), .int (iI (tu)), .int (iI (be)), .int (iI (sp))])), (h2, .inl (cI, 256, .inl (aI g)))] H := hP
  have hD : va_D A [(h0, .inr (4, [.int (iI (nk)), .int (iI (nd)), .int (iI (nb)), .int (iI (nsp - 1)), .int (iI (nst)), .int (iI (nmo)), .int (iI (ntu)), .int (iI (nri)), .int (iI (nla)), .int (iI (nro))])), (h1, .inr (7, [.ref h2, .int (iI (Wi)), .int (iI (Hi)), .int (iI (bl)), .int (iI (sc)), .int (iI (sd)), .int (iI (no)), .int (iI (tu)), .int (iI (be)), .int (iI (sp))])), (h2, .inl (cI, 256, .inl (aI g)))] := hD
  refine lv_aload_n hx hb dX4_step_10 rfl (lv_at hl 0 rfl) ?_
  refine lv_dup hx hb dX4_step_11 rfl ?_
  refine va_get (D := D) (ci := 4) (v := .int (iI (nst))) (C := RX4) (T := TX4) (N := 10) hx hb hts UX4 hown hK hP 0 rfl rfl 4 (by decide) L28 (fun _ h9 => h9) rfl dX4_step_12 ?_
  refine lv_iconst (v := iI (1)) hx hb dX4_step_15 rfl ?_
  refine j_iadd hx hb dX4_step_16 ?_
  refine va_put (D := D) (ci := 4) (v := .int (iI (nst + 1))) (ty := .int) (C := RX4) (T := TX4) (N := 10) hx hb hts UX4 tyX4 tyX4_ok nmX4 hown hK hP hD hS 0 rfl rfl 4 (by decide) L28 (fun _ h9 => h9) rfl rfl rfl rfl (Nat.le_of_ble_eq_true rfl) dX4_step_17 (fun H locs hP hD hS => ?_)
  have hP : va_P D vwCl [(h0, .inr (4, [.int (iI (nk)), .int (iI (nd)), .int (iI (nb)), .int (iI (nsp - 1)), .int (iI (nst + 1)), .int (iI (nmo)), .int (iI (ntu)), .int (iI (nri)), .int (iI (nla)), .int (iI (nro))])), (h1, .inr (7, [.ref h2, .int (iI (Wi)), .int (iI (Hi)), .int (iI (bl)), .int (iI (sc)), .int (iI (sd)), .int (iI (no)), .int (iI (tu)), .int (iI (be)), .int (iI (sp))])), (h2, .inl (cI, 256, .inl (aI g)))] H := hP
  have hD : va_D A [(h0, .inr (4, [.int (iI (nk)), .int (iI (nd)), .int (iI (nb)), .int (iI (nsp - 1)), .int (iI (nst + 1)), .int (iI (nmo)), .int (iI (ntu)), .int (iI (nri)), .int (iI (nla)), .int (iI (nro))])), (h1, .inr (7, [.ref h2, .int (iI (Wi)), .int (iI (Hi)), .int (iI (bl)), .int (iI (sc)), .int (iI (sd)), .int (iI (no)), .int (iI (tu)), .int (iI (be)), .int (iI (sp))])), (h2, .inl (cI, 256, .inl (aI g)))] := hD
  refine lv_aload_n hx hb dX4_step_20 rfl (lv_at hl 1 rfl) ?_
  refine lv_aload_n hx hb dX4_step_21 rfl (lv_at hl 0 rfl) ?_
  refine va_get (D := D) (ci := 4) (v := .int (iI (nk))) (C := RX4) (T := TX4) (N := 10) hx hb hts UX4 hown hK hP 0 rfl rfl 0 (by decide) L43 (fun _ h9 => h9) rfl dX4_step_22 ?_
  refine lv_aload_n hx hb dX4_step_25 rfl (lv_at hl 0 rfl) ?_
  refine va_get (D := D) (ci := 4) (v := .int (iI (nd))) (C := RX4) (T := TX4) (N := 10) hx hb hts UX4 hown hK hP 0 rfl rfl 1 (by decide) L46 (fun _ h9 => h9) rfl dX4_step_26 ?_
  refine lv_aload_n hx hb dX4_step_29 rfl (lv_at hl 1 rfl) ?_
  refine va_get (D := D) (ci := 7) (v := .int (iI (no))) (C := RX7) (T := TX7) (N := 10) hx hb hts UX7 hown hK hP 1 rfl rfl 6 (by decide) L59 (fun _ h9 => h9) rfl dX4_step_30 ?_
  refine j_rd (va_runV (As := [.int (iI (nk)), .int (iI (nd)), .int (iI (no))]) (rest := []) ⟨hx, hb, hml, hown, hts⟩ (c_X7_turnsAt l D cI cZ z h1 h2 nk nd no Wi Hi bl sc sd no tu be sp g (by first | assumption | omega) (by first | assumption | omega) (by first | assumption | omega) (by first | assumption | omega) (by first | assumption | omega) (by first | assumption | omega) H.size) (cwV 3 hts gX4_step_X7_turnsAt rfl rfl rfl hvX7_turnsAt ⟨Nat.le_of_ble_eq_true rfl, Nat.le_of_ble_eq_true rfl⟩) (j_preV hP hD hK hS hZ hA [1, 2] rfl rfl 1 rfl rfl) rfl rfl hl.1 rfl (lv_room (Nat.le_of_ble_eq_true rfl)) dX4_step_33 ⟨Nat.zero_le _, Nat.zero_le _⟩) ?_
  refine j_ifeq_b (tgt := 47) hx hb dX4_step_36 (by decide) (fun c_36 => ?_) (fun c_36 => ?_)
  · refine lv_aload_n hx hb dX4_step_47 rfl (lv_at hl 0 rfl) ?_
    refine lv_aload_n hx hb dX4_step_48 rfl (lv_at hl 1 rfl) ?_
    refine j_muv (va_runV (As := [.ref h1]) (rest := []) ⟨hx, hb, hml, hown, hts⟩ (c_X4_moveOn l D cI cZ z h0 h1 h2 nk nd nb (nsp - 1) (nst + 1) nmo ntu nri nla nro Wi Hi bl sc sd no tu be sp g (by first | assumption | omega) (by first | assumption | omega) (by first | assumption | omega) (by first | assumption | omega) (by first | assumption | omega) (by first | assumption | omega) (by first | assumption | omega) (by first | assumption | omega) (by first | assumption | omega) H.size) (cwV 1 hts gX4_step_X4_moveOn rfl rfl rfl hvX4_moveOn ⟨Nat.le_of_ble_eq_true rfl, Nat.le_of_ble_eq_true rfl⟩) (j_preV hP hD hK hS hZ hA [0, 1, 2] rfl rfl 0 rfl rfl) rfl rfl hl.1 rfl (lv_room (Nat.le_of_ble_eq_true rfl)) dX4_step_49 ⟨Nat.zero_le _, Nat.zero_le _⟩) hP hD hS hA [0, 1, 2] rfl (fun _ => rfl) (fun u_9 H locs hw_49 hP hD hS => ?_)
    obtain ⟨nb2_1, nd2_2, nri2_3⟩ := u_9
    dsimp only at hw_49
    have hP : va_P D vwCl [(h0, .inr (4, [.int (iI (offI Wi Hi nk nd 1)), .int (iI (nd2_2)), .int (iI (nb2_1)), .int (iI ((nsp - 1))), .int (iI ((nst + 1))), .int (iI (nmo + 1)), .int (iI (ntu)), .int (iI (nri2_3)), .int (iI (nla)), .int (iI (0))])), (h1, .inr (7, [.ref h2, .int (iI (Wi)), .int (iI (Hi)), .int (iI (bl)), .int (iI (sc)), .int (iI (sd)), .int (iI (no)), .int (iI (tu)), .int (iI (be)), .int (iI (sp))])), (h2, .inl (cI, 256, .inl (aI g)))] H := hP
    have hD : va_D A [(h0, .inr (4, [.int (iI (offI Wi Hi nk nd 1)), .int (iI (nd2_2)), .int (iI (nb2_1)), .int (iI ((nsp - 1))), .int (iI ((nst + 1))), .int (iI (nmo + 1)), .int (iI (ntu)), .int (iI (nri2_3)), .int (iI (nla)), .int (iI (0))])), (h1, .inr (7, [.ref h2, .int (iI (Wi)), .int (iI (Hi)), .int (iI (bl)), .int (iI (sc)), .int (iI (sd)), .int (iI (no)), .int (iI (tu)), .int (iI (be)), .int (iI (sp))])), (h2, .inl (cI, 256, .inl (aI g)))] := hD
    rw [hQ]; exact jm_vret (offI Wi Hi nk nd 1, nd2_2, nb2_1, (nsp - 1), (nst + 1), nmo + 1, ntu, nri2_3, nla, 0) hx hb hr hlocks hS hP rfl (by (try dsimp only); simp only [stpN]; first | (rw [if_pos c_36]; done) | (rw [if_neg (by simp [c_36])]; obtain ⟨h91, h92, h93⟩ := hw_49; rw [h91, h92, h93]; by_cases h9 : isWd Wi Hi g (offI Wi Hi nk nd 1) = true <;> simp [h9])) dX4_step_52
  · refine lv_aload_n hx hb dX4_step_39 rfl (lv_at hl 0 rfl) ?_
    refine lv_aload_n hx hb dX4_step_40 rfl (lv_at hl 1 rfl) ?_
    refine j_muv (va_runV (As := [.ref h1]) (rest := []) ⟨hx, hb, hml, hown, hts⟩ (c_X4_turnRight l D cI cZ z h0 h1 h2 nk nd nb (nsp - 1) (nst + 1) nmo ntu nri nla nro Wi Hi bl sc sd no tu be sp g (by first | assumption | omega) (by first | assumption | omega) (by first | assumption | omega) (by first | assumption | omega) (by first | assumption | omega) (by first | assumption | omega) (by first | assumption | omega) (by first | assumption | omega) H.size) (cwV 1 hts gX4_step_X4_turnRight rfl rfl rfl hvX4_turnRight ⟨Nat.le_of_ble_eq_true rfl, Nat.le_of_ble_eq_true rfl⟩) (j_preV hP hD hK hS hZ hA [0, 1, 2] rfl rfl 0 rfl rfl) rfl rfl hl.1 rfl (lv_room (Nat.le_of_ble_eq_true rfl)) dX4_step_41 ⟨Nat.zero_le _, Nat.zero_le _⟩) hP hD hS hA [0, 1, 2] rfl (fun _ => rfl) (fun _ H locs hw_41 hP hD hS => ?_)
    have hP : va_P D vwCl [(h0, .inr (4, [.int (iI (nk)), .int (iI ((nd + tu) % 8)), .int (iI (nb)), .int (iI ((nsp - 1))), .int (iI ((nst + 1))), .int (iI (nmo)), .int (iI (ntu + 1)), .int (iI (nri)), .int (iI (srt Wi Hi g no nk nd (nro + 1))), .int (iI (nro + 1))])), (h1, .inr (7, [.ref h2, .int (iI (Wi)), .int (iI (Hi)), .int (iI (bl)), .int (iI (sc)), .int (iI (sd)), .int (iI (no)), .int (iI (tu)), .int (iI (be)), .int (iI (sp))])), (h2, .inl (cI, 256, .inl (aI g)))] H := hP
    have hD : va_D A [(h0, .inr (4, [.int (iI (nk)), .int (iI ((nd + tu) % 8)), .int (iI (nb)), .int (iI ((nsp - 1))), .int (iI ((nst + 1))), .int (iI (nmo)), .int (iI (ntu + 1)), .int (iI (nri)), .int (iI (srt Wi Hi g no nk nd (nro + 1))), .int (iI (nro + 1))])), (h1, .inr (7, [.ref h2, .int (iI (Wi)), .int (iI (Hi)), .int (iI (bl)), .int (iI (sc)), .int (iI (sd)), .int (iI (no)), .int (iI (tu)), .int (iI (be)), .int (iI (sp))])), (h2, .inl (cI, 256, .inl (aI g)))] := hD
    refine lv_goto (tgt := 52) hx hb dX4_step_44 (by decide) ?_
    rw [hQ]; exact jm_vret (nk, (nd + tu) % 8, nb, (nsp - 1), (nst + 1), nmo, ntu + 1, nri, srt Wi Hi g no nk nd (nro + 1), nro + 1) hx hb hr hlocks hS hP rfl (by (try dsimp only); simp only [stpN]; first | (rw [if_pos c_36]; done) | (rw [if_neg (by simp [c_36])]; obtain ⟨h91, h92, h93⟩ := hw_49; rw [h91, h92, h93]; by_cases h9 : isWd Wi Hi g (offI Wi Hi nk nd 1) = true <;> simp [h9])) dX4_step_52
