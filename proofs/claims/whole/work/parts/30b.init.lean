abbrev rmX4_init : Room := { frames := 1, cells := 0, slots := 0, locals := 12 }
set_option maxHeartbeats 4000000 in
set_option maxRecDepth 100000 in
theorem c_X4_init (l : Launch) (D : va_G) (cI cZ : ClassId) (z : jZT) (h0 : Nat) : jNu (S := Unit) l yX4_init wsX4_init rmX4_init [.ref h0] D cI cZ z [(h0, .inr (4, [.int (iI (0)), .int (iI (0)), .int (iI (0)), .int (iI (0)), .int (iI (0)), .int (iI (0)), .int (iI (0)), .int (iI (0)), .int (iI (0)), .int (iI (0))]))] (fun u => True) (fun u => [(h0, .inr (4, [.int (iI (0)), .int (iI (0)), .int (iI (0)), .int (iI (0)), .int (iI (0)), .int (iI (0)), .int (iI (0)), .int (iI (0)), .int (iI (0)), .int (iI (0))]))]) 0 0 := by
  refine jNu_of (cc := cX4_init) (n := 1) (ret := none) (by decide) rfl rfl (Nat.le_of_ble_eq_true rfl) ?_
  intro p e s m below meth c A ls args Q hQ F hin hA hZ hP hK hD hS hl
  obtain ⟨hx, hb, hr, hml, hown, hts, hlocks⟩ := F
  have hown : s.vm.findClass RX4 = some m.cls := hown
  have hl : lv_has ls 1 [(0, .ref h0)] := hl
  refine lv_aload_n hx hb dX4_init_0 rfl (lv_at hl 0 rfl) ?_
  refine W.objInit hx hb hown (hts (.methodLink RX4 3 objectInit) (by decide +kernel)) (hts (.instanceMethod objectInit) (by decide +kernel)) (hts (.code objectInit ⟨#[0xb1]⟩ 1 none) (by decide +kernel)) rfl (by rw [hml]; exact hl.1) rfl dX4_init_1 (Nat.le_of_ble_eq_true rfl) (Nat.le_of_ble_eq_true rfl) ?_
  refine W.eq (g2 := F0 m 4 ls []) rfl ?_
  rw [hQ]; refine W.widen (k := 0) (n := 0) (Nat.le_of_ble_eq_true rfl) (Nat.le_of_ble_eq_true rfl) ?_
  exact jn_vret () hx hb hr hlocks hS (hP.sub [0] rfl) (hD.sub [0] rfl rfl) trivial dX4_init_4
abbrev rmX8_init : Room := { frames := 1, cells := 1, slots := 300, locals := 12 }
set_option maxHeartbeats 4000000 in
set_option maxRecDepth 100000 in
theorem c_X8_init (l : Launch) (D : va_G) (cI cZ : ClassId) (z : jZT) (h0 : Nat) : jNu (S := Nat) l yX8_init wsX8_init rmX8_init [.ref h0] D cI cZ z [(h0, .inr (8, [.null, .int (iI (0)), .int (iI (0)), .int (iI (0)), .int (iI (0)), .int (iI (0))]))] (fun u => True) (fun u => [(h0, .inr (8, [.ref u, .int (iI (0)), .int (iI (0)), .int (iI (0)), .int (iI (0)), .int (iI (0))])), (u, .inl (cI, 300, .inl (aI (fun _ => 0))))]) 1 300 := by
  refine jNu_of (cc := cX8_init) (n := 1) (ret := none) (by decide) rfl rfl (Nat.le_of_ble_eq_true rfl) ?_
  intro p e s m below meth c A ls args Q hQ F hin hA hZ hP hK hD hS hl
  obtain ⟨hx, hb, hr, hml, hown, hts, hlocks⟩ := F
  have hown : s.vm.findClass RX8 = some m.cls := hown
  have hl : lv_has ls 1 [(0, .ref h0)] := hl
  have L9 := hts (.fieldLink RX8 9 "TinMouse$Text" "bytes" "[I") (by decide +kernel)
  have UX8 : ∀ w ∈ wsX80, w ∈ wsX8_init := fun w h => List.mem_cons_of_mem _ (List.mem_append_right _ h)
  refine lv_aload_n hx hb dX8_init_0 rfl (lv_at hl 0 rfl) ?_
  refine W.objInit hx hb hown (hts (.methodLink RX8 3 objectInit) (by decide +kernel)) (hts (.instanceMethod objectInit) (by decide +kernel)) (hts (.code objectInit ⟨#[0xb1]⟩ 1 none) (by decide +kernel)) rfl (by rw [hml]; exact hl.1) rfl dX8_init_1 (Nat.le_of_ble_eq_true rfl) (Nat.le_of_ble_eq_true rfl) ?_
  refine W.eq (g2 := F0 m 4 ls []) rfl ?_
  refine lv_aload_n hx hb dX8_init_4 rfl (lv_at hl 0 rfl) ?_
  refine lv_sipush (v := iI (300)) hx hb dX8_init_5 (by decide) ?_
  refine j_newI (N := 300) hx hb (hts (.arrayClass .int) (by decide +kernel)) hK hP hD hS hA (by omega) (Nat.le_of_ble_eq_true rfl) (Nat.le_of_ble_eq_true rfl) dX8_init_8 (fun q_1 H hP hD hS => ?_)
  have hP : va_P D vwCl [(h0, .inr (8, [.null, .int (iI (0)), .int (iI (0)), .int (iI (0)), .int (iI (0)), .int (iI (0))])), (q_1, .inl (cI, 300, .inl (aI (fun _ => 0))))] H := hP
  have hD : va_D A [(h0, .inr (8, [.null, .int (iI (0)), .int (iI (0)), .int (iI (0)), .int (iI (0)), .int (iI (0))])), (q_1, .inl (cI, 300, .inl (aI (fun _ => 0))))] := hD
  refine va_putF (D := D) (ci := 8) (v := .ref q_1) (ty := .array .int) (C := RX8) (T := TX8) (N := 6) hx hb hts UX8 tyX8 tyX8_ok nmX8 hown hK hP hD hS 0 rfl rfl 0 (by decide) L9 (fun _ h9 => h9) rfl hin rfl (by decide +kernel) rfl rfl (Nat.le_of_ble_eq_true rfl) dX8_init_10 (fun H locs hP hD hS => ?_)
  have hP : va_P D vwCl [(h0, .inr (8, [.ref q_1, .int (iI (0)), .int (iI (0)), .int (iI (0)), .int (iI (0)), .int (iI (0))])), (q_1, .inl (cI, 300, .inl (aI (fun _ => 0))))] H := hP
  have hD : va_D A [(h0, .inr (8, [.ref q_1, .int (iI (0)), .int (iI (0)), .int (iI (0)), .int (iI (0)), .int (iI (0))])), (q_1, .inl (cI, 300, .inl (aI (fun _ => 0))))] := hD
  rw [hQ]; refine W.widen (k := 1) (n := 300) (Nat.le_of_ble_eq_true rfl) (Nat.le_of_ble_eq_true rfl) ?_
  exact jn_vret q_1 hx hb hr hlocks hS (hP.sub [0, 1] rfl) (hD.sub [0, 1] rfl rfl) trivial dX8_init_13
abbrev rmX9_init : Room := { frames := 1, cells := 1, slots := 2048, locals := 12 }
set_option maxHeartbeats 4000000 in
set_option maxRecDepth 100000 in
theorem c_X9_init (l : Launch) (D : va_G) (cI cZ : ClassId) (z : jZT) (h0 : Nat) : jNu (S := Nat) l yX9_init wsX9_init rmX9_init [.ref h0] D cI cZ z [(h0, .inr (9, [.null, .int (iI (0)), .int (iI (0)), .int (iI (0))]))] (fun u => True) (fun u => [(h0, .inr (9, [.ref u, .int (iI (0)), .int (iI (0)), .int (iI (0))])), (u, .inl (cI, 2048, .inl (aI (fun _ => 0))))]) 1 2048 := by
  refine jNu_of (cc := cX9_init) (n := 1) (ret := none) (by decide) rfl rfl (Nat.le_of_ble_eq_true rfl) ?_
  intro p e s m below meth c A ls args Q hQ F hin hA hZ hP hK hD hS hl
  obtain ⟨hx, hb, hr, hml, hown, hts, hlocks⟩ := F
  have hown : s.vm.findClass RX9 = some m.cls := hown
  have hl : lv_has ls 1 [(0, .ref h0)] := hl
  have L9 := hts (.fieldLink RX9 9 "TinMouse$Ways" "ahead" "[I") (by decide +kernel)
  have UX9 : ∀ w ∈ wsX90, w ∈ wsX9_init := fun w h => List.mem_cons_of_mem _ (List.mem_append_right _ h)
  refine lv_aload_n hx hb dX9_init_0 rfl (lv_at hl 0 rfl) ?_
  refine W.objInit hx hb hown (hts (.methodLink RX9 3 objectInit) (by decide +kernel)) (hts (.instanceMethod objectInit) (by decide +kernel)) (hts (.code objectInit ⟨#[0xb1]⟩ 1 none) (by decide +kernel)) rfl (by rw [hml]; exact hl.1) rfl dX9_init_1 (Nat.le_of_ble_eq_true rfl) (Nat.le_of_ble_eq_true rfl) ?_
  refine W.eq (g2 := F0 m 4 ls []) rfl ?_
  refine lv_aload_n hx hb dX9_init_4 rfl (lv_at hl 0 rfl) ?_
  refine lv_sipush (v := iI (2048)) hx hb dX9_init_5 (by decide) ?_
  refine j_newI (N := 2048) hx hb (hts (.arrayClass .int) (by decide +kernel)) hK hP hD hS hA (by omega) (Nat.le_of_ble_eq_true rfl) (Nat.le_of_ble_eq_true rfl) dX9_init_8 (fun q_1 H hP hD hS => ?_)
  have hP : va_P D vwCl [(h0, .inr (9, [.null, .int (iI (0)), .int (iI (0)), .int (iI (0))])), (q_1, .inl (cI, 2048, .inl (aI (fun _ => 0))))] H := hP
  have hD : va_D A [(h0, .inr (9, [.null, .int (iI (0)), .int (iI (0)), .int (iI (0))])), (q_1, .inl (cI, 2048, .inl (aI (fun _ => 0))))] := hD
  refine va_putF (D := D) (ci := 9) (v := .ref q_1) (ty := .array .int) (C := RX9) (T := TX9) (N := 4) hx hb hts UX9 tyX9 tyX9_ok nmX9 hown hK hP hD hS 0 rfl rfl 0 (by decide) L9 (fun _ h9 => h9) rfl hin rfl (by decide +kernel) rfl rfl (Nat.le_of_ble_eq_true rfl) dX9_init_10 (fun H locs hP hD hS => ?_)
  have hP : va_P D vwCl [(h0, .inr (9, [.ref q_1, .int (iI (0)), .int (iI (0)), .int (iI (0))])), (q_1, .inl (cI, 2048, .inl (aI (fun _ => 0))))] H := hP
  have hD : va_D A [(h0, .inr (9, [.ref q_1, .int (iI (0)), .int (iI (0)), .int (iI (0))])), (q_1, .inl (cI, 2048, .inl (aI (fun _ => 0))))] := hD
  rw [hQ]; refine W.widen (k := 1) (n := 2048) (Nat.le_of_ble_eq_true rfl) (Nat.le_of_ble_eq_true rfl) ?_
  exact jn_vret q_1 hx hb hr hlocks hS (hP.sub [0, 1] rfl) (hD.sub [0, 1] rfl rfl) trivial dX9_init_13
abbrev rmX1_init : Room := { frames := 1, cells := 2, slots := 40, locals := 12 }
set_option maxHeartbeats 4000000 in
set_option maxRecDepth 100000 in
theorem c_X1_init (l : Launch) (D : va_G) (cI cZ : ClassId) (z : jZT) (h0 : Nat) : jNu (S := Nat × Nat) l yX1_init wsX1_init rmX1_init [.ref h0] D cI cZ z [(h0, .inr (1, [.null, .null, .int (iI (0)), .long (lI (0)), .long (lI (0))]))] (fun u => True) (fun u => [(h0, .inr (1, [.ref (u.1), .ref (u.2), .int (iI (0)), .long (lI (0)), .long (lI (0))])), (u.1, .inl (cI, 20, .inl (aI (fun _ => 0)))), (u.2, .inl (cI, 20, .inl (aI (fun _ => 0))))]) 2 40 := by
  refine jNu_of (cc := cX1_init) (n := 1) (ret := none) (by decide) rfl rfl (Nat.le_of_ble_eq_true rfl) ?_
  intro p e s m below meth c A ls args Q hQ F hin hA hZ hP hK hD hS hl
  obtain ⟨hx, hb, hr, hml, hown, hts, hlocks⟩ := F
  have hown : s.vm.findClass RX1 = some m.cls := hown
  have hl : lv_has ls 1 [(0, .ref h0)] := hl
  have L9 := hts (.fieldLink RX1 9 "TinMouse$Keys" "turns" "[I") (by decide +kernel)
  have L15 := hts (.fieldLink RX1 15 "TinMouse$Keys" "steps" "[I") (by decide +kernel)
  have UX1 : ∀ w ∈ wsX10, w ∈ wsX1_init := fun w h => List.mem_cons_of_mem _ (List.mem_append_right _ h)
  refine lv_aload_n hx hb dX1_init_0 rfl (lv_at hl 0 rfl) ?_
  refine W.objInit hx hb hown (hts (.methodLink RX1 3 objectInit) (by decide +kernel)) (hts (.instanceMethod objectInit) (by decide +kernel)) (hts (.code objectInit ⟨#[0xb1]⟩ 1 none) (by decide +kernel)) rfl (by rw [hml]; exact hl.1) rfl dX1_init_1 (Nat.le_of_ble_eq_true rfl) (Nat.le_of_ble_eq_true rfl) ?_
  refine W.eq (g2 := F0 m 4 ls []) rfl ?_
  refine lv_aload_n hx hb dX1_init_4 rfl (lv_at hl 0 rfl) ?_
  refine lv_bipush (v := iI (20)) hx hb dX1_init_5 (by decide) ?_
  refine j_newI (N := 20) hx hb (hts (.arrayClass .int) (by decide +kernel)) hK hP hD hS hA (by omega) (Nat.le_of_ble_eq_true rfl) (Nat.le_of_ble_eq_true rfl) dX1_init_7 (fun q_1 H hP hD hS => ?_)
  have hP : va_P D vwCl [(h0, .inr (1, [.null, .null, .int (iI (0)), .long (lI (0)), .long (lI (0))])), (q_1, .inl (cI, 20, .inl (aI (fun _ => 0))))] H := hP
  have hD : va_D A [(h0, .inr (1, [.null, .null, .int (iI (0)), .long (lI (0)), .long (lI (0))])), (q_1, .inl (cI, 20, .inl (aI (fun _ => 0))))] := hD
  refine va_putF (D := D) (ci := 1) (v := .ref q_1) (ty := .array .int) (C := RX1) (T := TX1) (N := 5) hx hb hts UX1 tyX1 tyX1_ok nmX1 hown hK hP hD hS 0 rfl rfl 0 (by decide) L9 (fun _ h9 => h9) rfl hin rfl (by decide +kernel) rfl rfl (Nat.le_of_ble_eq_true rfl) dX1_init_9 (fun H locs hP hD hS => ?_)
  have hP : va_P D vwCl [(h0, .inr (1, [.ref q_1, .null, .int (iI (0)), .long (lI (0)), .long (lI (0))])), (q_1, .inl (cI, 20, .inl (aI (fun _ => 0))))] H := hP
  have hD : va_D A [(h0, .inr (1, [.ref q_1, .null, .int (iI (0)), .long (lI (0)), .long (lI (0))])), (q_1, .inl (cI, 20, .inl (aI (fun _ => 0))))] := hD
  refine lv_aload_n hx hb dX1_init_12 rfl (lv_at hl 0 rfl) ?_
  refine lv_bipush (v := iI (20)) hx hb dX1_init_13 (by decide) ?_
  refine j_newI (N := 20) hx hb (hts (.arrayClass .int) (by decide +kernel)) hK hP hD hS hA (by omega) (Nat.le_of_ble_eq_true rfl) (Nat.le_of_ble_eq_true rfl) dX1_init_15 (fun q_2 H hP hD hS => ?_)
  have hP : va_P D vwCl [(h0, .inr (1, [.ref q_1, .null, .int (iI (0)), .long (lI (0)), .long (lI (0))])), (q_1, .inl (cI, 20, .inl (aI (fun _ => 0)))), (q_2, .inl (cI, 20, .inl (aI (fun _ => 0))))] H := hP
  have hD : va_D A [(h0, .inr (1, [.ref q_1, .null, .int (iI (0)), .long (lI (0)), .long (lI (0))])), (q_1, .inl (cI, 20, .inl (aI (fun _ => 0)))), (q_2, .inl (cI, 20, .inl (aI (fun _ => 0))))] := hD
  refine va_putF (D := D) (ci := 1) (v := .ref q_2) (ty := .array .int) (C := RX1) (T := TX1) (N := 5) hx hb hts UX1 tyX1 tyX1_ok nmX1 hown hK hP hD hS 0 rfl rfl 1 (by decide) L15 (fun _ h9 => h9) rfl hin rfl (by decide +kernel) rfl rfl (Nat.le_of_ble_eq_true rfl) dX1_init_17 (fun H locs hP hD hS => ?_)
  have hP : va_P D vwCl [(h0, .inr (1, [.ref q_1, .ref q_2, .int (iI (0)), .long (lI (0)), .long (lI (0))])), (q_1, .inl (cI, 20, .inl (aI (fun _ => 0)))), (q_2, .inl (cI, 20, .inl (aI (fun _ => 0))))] H := hP
  have hD : va_D A [(h0, .inr (1, [.ref q_1, .ref q_2, .int (iI (0)), .long (lI (0)), .long (lI (0))])), (q_1, .inl (cI, 20, .inl (aI (fun _ => 0)))), (q_2, .inl (cI, 20, .inl (aI (fun _ => 0))))] := hD
  rw [hQ]; refine W.widen (k := 2) (n := 40) (Nat.le_of_ble_eq_true rfl) (Nat.le_of_ble_eq_true rfl) ?_
  exact jn_vret (q_1, q_2) hx hb hr hlocks hS (hP.sub [0, 1, 2] rfl) (hD.sub [0, 1, 2] rfl rfl) trivial dX1_init_20
abbrev rmX3_initA : Room := { frames := 1, cells := 1, slots := 18432, locals := 12 }
set_option maxHeartbeats 4000000 in
set_option maxRecDepth 100000 in
theorem c_X3_initA (l : Launch) (D : va_G) (cI cZ : ClassId) (z : jZT) (h0 : Nat) : jNu (S := Nat) l yX3_init wsX3_init rmX3_initA [.ref h0, .int (iI (18432))] D cI cZ z [(h0, .inr (3, [.null, .int (iI (0)), .int (iI (0))]))] (fun u => True) (fun u => [(h0, .inr (3, [.ref u, .int (iI (0)), .int (iI (0))])), (u, .inl (cI, 18432, .inl (aI (fun _ => 0))))]) 1 18432 := by
  refine jNu_of (cc := cX3_init) (n := 2) (ret := none) (by decide) rfl rfl (Nat.le_of_ble_eq_true rfl) ?_
  intro p e s m below meth c A ls args Q hQ F hin hA hZ hP hK hD hS hl
  obtain ⟨hx, hb, hr, hml, hown, hts, hlocks⟩ := F
  have hown : s.vm.findClass RX3 = some m.cls := hown
  have hl : lv_has ls 2 [(0, .ref h0), (1, .int (iI (18432)))] := hl
  have L7 := hts (.fieldLink RX3 7 "TinMouse$Marks" "marks" "[I") (by decide +kernel)
  have UX3 : ∀ w ∈ wsX30, w ∈ wsX3_init := fun w h => List.mem_cons_of_mem _ (List.mem_append_right _ h)
  refine lv_aload_n hx hb dX3_init_0 rfl (lv_at hl 0 rfl) ?_
  refine W.objInit hx hb hown (hts (.methodLink RX3 1 objectInit) (by decide +kernel)) (hts (.instanceMethod objectInit) (by decide +kernel)) (hts (.code objectInit ⟨#[0xb1]⟩ 1 none) (by decide +kernel)) rfl (by rw [hml]; exact hl.1) rfl dX3_init_1 (Nat.le_of_ble_eq_true rfl) (Nat.le_of_ble_eq_true rfl) ?_
  refine W.eq (g2 := F0 m 4 ls []) rfl ?_
  refine lv_aload_n hx hb dX3_init_4 rfl (lv_at hl 0 rfl) ?_
  refine lv_iload_n hx hb dX3_init_5 rfl (lv_at hl 1 rfl) ?_
  obtain ⟨t_1, et_1⟩ : ∃ t : Int, t = if (18432 : Int) ≤ 0 then 1 else 18432 := ⟨_, rfl⟩
  have kt_1 : W p l e rmX3_initA s m args below meth c s.heap [] 0 0 Q (F0 m 14 ls [.int (iI (t_1)), .ref h0]) := by
    refine j_newI (N := 18432) hx hb (hts (.arrayClass .int) (by decide +kernel)) hK hP hD hS hA (by omega) (Nat.le_of_ble_eq_true rfl) (Nat.le_of_ble_eq_true rfl) dX3_init_14 (fun q_2 H hP hD hS => ?_)
    have hP : va_P D vwCl [(h0, .inr (3, [.null, .int (iI (0)), .int (iI (0))])), (q_2, .inl (cI, 18432, .inl (aI (fun _ => 0))))] H := hP
    have hD : va_D A [(h0, .inr (3, [.null, .int (iI (0)), .int (iI (0))])), (q_2, .inl (cI, 18432, .inl (aI (fun _ => 0))))] := hD
    refine va_putF (D := D) (ci := 3) (v := .ref q_2) (ty := .array .int) (C := RX3) (T := TX3) (N := 3) hx hb hts UX3 tyX3 tyX3_ok nmX3 hown hK hP hD hS 0 rfl rfl 0 (by decide) L7 (fun _ h9 => h9) rfl hin rfl (by decide +kernel) rfl rfl (Nat.le_of_ble_eq_true rfl) dX3_init_16 (fun H locs hP hD hS => ?_)
    have hP : va_P D vwCl [(h0, .inr (3, [.ref q_2, .int (iI (0)), .int (iI (0))])), (q_2, .inl (cI, 18432, .inl (aI (fun _ => 0))))] H := hP
    have hD : va_D A [(h0, .inr (3, [.ref q_2, .int (iI (0)), .int (iI (0))])), (q_2, .inl (cI, 18432, .inl (aI (fun _ => 0))))] := hD
    rw [hQ]; refine W.widen (k := 1) (n := 18432) (Nat.le_of_ble_eq_true rfl) (Nat.le_of_ble_eq_true rfl) ?_
    exact jn_vret q_2 hx hb hr hlocks hS (hP.sub [0, 1] rfl) (hD.sub [0, 1] rfl rfl) trivial dX3_init_19
  refine j_if_le (tgt := 13) hx hb (by omega) dX3_init_6 (by decide) (fun q_3 => ?_) (fun q_3 => ?_)
  · refine lv_iconst (v := iI (1)) hx hb dX3_init_13 rfl ?_
    (have q9 := kt_1; rw [et_1, if_pos q_3] at q9; exact q9)
  · refine lv_iload_n hx hb dX3_init_9 rfl (lv_at hl 1 rfl) ?_
    refine lv_goto (tgt := 14) hx hb dX3_init_10 (by decide) ?_
    (have q9 := kt_1; rw [et_1, if_neg q_3] at q9; exact q9)
abbrev rmX3_initB : Room := { frames := 1, cells := 1, slots := 256, locals := 12 }
set_option maxHeartbeats 4000000 in
set_option maxRecDepth 100000 in
theorem c_X3_initB (l : Launch) (D : va_G) (cI cZ : ClassId) (z : jZT) (h0 : Nat) : jNu (S := Nat) l yX3_init wsX3_init rmX3_initB [.ref h0, .int (iI (256))] D cI cZ z [(h0, .inr (3, [.null, .int (iI (0)), .int (iI (0))]))] (fun u => True) (fun u => [(h0, .inr (3, [.ref u, .int (iI (0)), .int (iI (0))])), (u, .inl (cI, 256, .inl (aI (fun _ => 0))))]) 1 256 := by
  refine jNu_of (cc := cX3_init) (n := 2) (ret := none) (by decide) rfl rfl (Nat.le_of_ble_eq_true rfl) ?_
  intro p e s m below meth c A ls args Q hQ F hin hA hZ hP hK hD hS hl
  obtain ⟨hx, hb, hr, hml, hown, hts, hlocks⟩ := F
  have hown : s.vm.findClass RX3 = some m.cls := hown
  have hl : lv_has ls 2 [(0, .ref h0), (1, .int (iI (256)))] := hl
  have L7 := hts (.fieldLink RX3 7 "TinMouse$Marks" "marks" "[I") (by decide +kernel)
  have UX3 : ∀ w ∈ wsX30, w ∈ wsX3_init := fun w h => List.mem_cons_of_mem _ (List.mem_append_right _ h)
  refine lv_aload_n hx hb dX3_init_0 rfl (lv_at hl 0 rfl) ?_
  refine W.objInit hx hb hown (hts (.methodLink RX3 1 objectInit) (by decide +kernel)) (hts (.instanceMethod objectInit) (by decide +kernel)) (hts (.code objectInit ⟨#[0xb1]⟩ 1 none) (by decide +kernel)) rfl (by rw [hml]; exact hl.1) rfl dX3_init_1 (Nat.le_of_ble_eq_true rfl) (Nat.le_of_ble_eq_true rfl) ?_
  refine W.eq (g2 := F0 m 4 ls []) rfl ?_
  refine lv_aload_n hx hb dX3_init_4 rfl (lv_at hl 0 rfl) ?_
  refine lv_iload_n hx hb dX3_init_5 rfl (lv_at hl 1 rfl) ?_
  obtain ⟨t_1, et_1⟩ : ∃ t : Int, t = if (256 : Int) ≤ 0 then 1 else 256 := ⟨_, rfl⟩
  have kt_1 : W p l e rmX3_initB s m args below meth c s.heap [] 0 0 Q (F0 m 14 ls [.int (iI (t_1)), .ref h0]) := by
    refine j_newI (N := 256) hx hb (hts (.arrayClass .int) (by decide +kernel)) hK hP hD hS hA (by omega) (Nat.le_of_ble_eq_true rfl) (Nat.le_of_ble_eq_true rfl) dX3_init_14 (fun q_2 H hP hD hS => ?_)
    have hP : va_P D vwCl [(h0, .inr (3, [.null, .int (iI (0)), .int (iI (0))])), (q_2, .inl (cI, 256, .inl (aI (fun _ => 0))))] H := hP
    have hD : va_D A [(h0, .inr (3, [.null, .int (iI (0)), .int (iI (0))])), (q_2, .inl (cI, 256, .inl (aI (fun _ => 0))))] := hD
    refine va_putF (D := D) (ci := 3) (v := .ref q_2) (ty := .array .int) (C := RX3) (T := TX3) (N := 3) hx hb hts UX3 tyX3 tyX3_ok nmX3 hown hK hP hD hS 0 rfl rfl 0 (by decide) L7 (fun _ h9 => h9) rfl hin rfl (by decide +kernel) rfl rfl (Nat.le_of_ble_eq_true rfl) dX3_init_16 (fun H locs hP hD hS => ?_)
    have hP : va_P D vwCl [(h0, .inr (3, [.ref q_2, .int (iI (0)), .int (iI (0))])), (q_2, .inl (cI, 256, .inl (aI (fun _ => 0))))] H := hP
    have hD : va_D A [(h0, .inr (3, [.ref q_2, .int (iI (0)), .int (iI (0))])), (q_2, .inl (cI, 256, .inl (aI (fun _ => 0))))] := hD
    rw [hQ]; refine W.widen (k := 1) (n := 256) (Nat.le_of_ble_eq_true rfl) (Nat.le_of_ble_eq_true rfl) ?_
    exact jn_vret q_2 hx hb hr hlocks hS (hP.sub [0, 1] rfl) (hD.sub [0, 1] rfl rfl) trivial dX3_init_19
  refine j_if_le (tgt := 13) hx hb (by omega) dX3_init_6 (by decide) (fun q_3 => ?_) (fun q_3 => ?_)
  · refine lv_iconst (v := iI (1)) hx hb dX3_init_13 rfl ?_
    (have q9 := kt_1; rw [et_1, if_pos q_3] at q9; exact q9)
  · refine lv_iload_n hx hb dX3_init_9 rfl (lv_at hl 1 rfl) ?_
    refine lv_goto (tgt := 14) hx hb dX3_init_10 (by decide) ?_
    (have q9 := kt_1; rw [et_1, if_neg q_3] at q9; exact q9)
abbrev rmX2_init : Room := { frames := 1, cells := 0, slots := 0, locals := 12 }
set_option maxHeartbeats 4000000 in
set_option maxRecDepth 100000 in
theorem c_X2_init (l : Launch) (D : va_G) (cI cZ : ClassId) (z : jZT) (h0 ha : Nat) : jNu (S := Unit) l yX2_init wsX2_init rmX2_init [.ref h0, .ref ha] D cI cZ z [(h0, .inr (2, [.null, .int (iI (0)), .int (iI (0)), .int (iI (0))]))] (fun u => True) (fun u => [(h0, .inr (2, [.ref ha, .int (iI (0)), .int (iI (0)), .int (iI (0))]))]) 0 0 := by
  refine jNu_of (cc := cX2_init) (n := 2) (ret := none) (by decide) rfl rfl (Nat.le_of_ble_eq_true rfl) ?_
  intro p e s m below meth c A ls args Q hQ F hin hA hZ hP hK hD hS hl
  obtain ⟨hx, hb, hr, hml, hown, hts, hlocks⟩ := F
  have hown : s.vm.findClass RX2 = some m.cls := hown
  have hl : lv_has ls 2 [(0, .ref h0), (1, .ref ha)] := hl
  have L9 := hts (.fieldLink RX2 9 "TinMouse$Lap" "seenCells" "LTinMouse$Marks;") (by decide +kernel)
  have UX2 : ∀ w ∈ wsX20, w ∈ wsX2_init := fun w h => List.mem_cons_of_mem _ (List.mem_append_right _ h)
  refine lv_aload_n hx hb dX2_init_0 rfl (lv_at hl 0 rfl) ?_
  refine W.objInit hx hb hown (hts (.methodLink RX2 3 objectInit) (by decide +kernel)) (hts (.instanceMethod objectInit) (by decide +kernel)) (hts (.code objectInit ⟨#[0xb1]⟩ 1 none) (by decide +kernel)) rfl (by rw [hml]; exact hl.1) rfl dX2_init_1 (Nat.le_of_ble_eq_true rfl) (Nat.le_of_ble_eq_true rfl) ?_
  refine W.eq (g2 := F0 m 4 ls []) rfl ?_
  refine lv_aload_n hx hb dX2_init_4 rfl (lv_at hl 0 rfl) ?_
  refine lv_aload_n hx hb dX2_init_5 rfl (lv_at hl 1 rfl) ?_
  refine va_putF (D := D) (ci := 2) (v := .ref ha) (ty := .object "TinMouse$Marks") (C := RX2) (T := TX2) (N := 4) hx hb hts UX2 tyX2 tyX2_ok nmX2 hown hK hP hD hS 0 rfl rfl 0 (by decide) L9 (fun _ h9 => h9) rfl hin rfl (by decide +kernel) rfl rfl (Nat.le_of_ble_eq_true rfl) dX2_init_6 (fun H locs hP hD hS => ?_)
  have hP : va_P D vwCl [(h0, .inr (2, [.ref ha, .int (iI (0)), .int (iI (0)), .int (iI (0))]))] H := hP
  have hD : va_D A [(h0, .inr (2, [.ref ha, .int (iI (0)), .int (iI (0)), .int (iI (0))]))] := hD
  rw [hQ]; refine W.widen (k := 0) (n := 0) (Nat.le_of_ble_eq_true rfl) (Nat.le_of_ble_eq_true rfl) ?_
  exact jn_vret () hx hb hr hlocks hS (hP.sub [0] rfl) (hD.sub [0] rfl rfl) trivial dX2_init_9
abbrev rmX5_init : Room := { frames := 1, cells := 1, slots := 4, locals := 12 }
set_option maxHeartbeats 4000000 in
set_option maxRecDepth 100000 in
theorem c_X5_init (l : Launch) (D : va_G) (cI cZ : ClassId) (z : jZT) (h0 ha : Nat) : jNu (S := Nat) l yX5_init wsX5_init rmX5_init [.ref h0, .ref ha] D cI cZ z [(h0, .inr (5, [.null, .null, .int (iI (0)), .int (iI (0))]))] (fun u => True) (fun u => [(h0, .inr (5, [.ref ha, .ref u, .int (iI (0)), .int (iI (0))])), (u, .inl (cI, 4, .inl (aI (fun _ => 0))))]) 1 4 := by
  refine jNu_of (cc := cX5_init) (n := 2) (ret := none) (by decide) rfl rfl (Nat.le_of_ble_eq_true rfl) ?_
  intro p e s m below meth c A ls args Q hQ F hin hA hZ hP hK hD hS hl
  obtain ⟨hx, hb, hr, hml, hown, hts, hlocks⟩ := F
  have hown : s.vm.findClass RX5 = some m.cls := hown
  have hl : lv_has ls 2 [(0, .ref h0), (1, .ref ha)] := hl
  have L9 := hts (.fieldLink RX5 9 "TinMouse$Reader" "numbers" "[I") (by decide +kernel)
  have L15 := hts (.fieldLink RX5 15 "TinMouse$Reader" "text" "LTinMouse$Text;") (by decide +kernel)
  have UX5 : ∀ w ∈ wsX50, w ∈ wsX5_init := fun w h => List.mem_cons_of_mem _ (List.mem_append_right _ h)
  refine lv_aload_n hx hb dX5_init_0 rfl (lv_at hl 0 rfl) ?_
  refine W.objInit hx hb hown (hts (.methodLink RX5 3 objectInit) (by decide +kernel)) (hts (.instanceMethod objectInit) (by decide +kernel)) (hts (.code objectInit ⟨#[0xb1]⟩ 1 none) (by decide +kernel)) rfl (by rw [hml]; exact hl.1) rfl dX5_init_1 (Nat.le_of_ble_eq_true rfl) (Nat.le_of_ble_eq_true rfl) ?_
  refine W.eq (g2 := F0 m 4 ls []) rfl ?_
  refine lv_aload_n hx hb dX5_init_4 rfl (lv_at hl 0 rfl) ?_
  refine lv_iconst (v := iI (4)) hx hb dX5_init_5 rfl ?_
  refine j_newI (N := 4) hx hb (hts (.arrayClass .int) (by decide +kernel)) hK hP hD hS hA (by omega) (Nat.le_of_ble_eq_true rfl) (Nat.le_of_ble_eq_true rfl) dX5_init_6 (fun q_1 H hP hD hS => ?_)
  have hP : va_P D vwCl [(h0, .inr (5, [.null, .null, .int (iI (0)), .int (iI (0))])), (q_1, .inl (cI, 4, .inl (aI (fun _ => 0))))] H := hP
  have hD : va_D A [(h0, .inr (5, [.null, .null, .int (iI (0)), .int (iI (0))])), (q_1, .inl (cI, 4, .inl (aI (fun _ => 0))))] := hD
  refine va_putF (D := D) (ci := 5) (v := .ref q_1) (ty := .array .int) (C := RX5) (T := TX5) (N := 4) hx hb hts UX5 tyX5 tyX5_ok nmX5 hown hK hP hD hS 0 rfl rfl 1 (by decide) L9 (fun _ h9 => h9) rfl hin rfl (by decide +kernel) rfl rfl (Nat.le_of_ble_eq_true rfl) dX5_init_8 (fun H locs hP hD hS => ?_)
  have hP : va_P D vwCl [(h0, .inr (5, [.null, .ref q_1, .int (iI (0)), .int (iI (0))])), (q_1, .inl (cI, 4, .inl (aI (fun _ => 0))))] H := hP
  have hD : va_D A [(h0, .inr (5, [.null, .ref q_1, .int (iI (0)), .int (iI (0))])), (q_1, .inl (cI, 4, .inl (aI (fun _ => 0))))] := hD
  refine lv_aload_n hx hb dX5_init_11 rfl (lv_at hl 0 rfl) ?_
  refine lv_aload_n hx hb dX5_init_12 rfl (lv_at hl 1 rfl) ?_
  refine va_putF (D := D) (ci := 5) (v := .ref ha) (ty := .object "TinMouse$Text") (C := RX5) (T := TX5) (N := 4) hx hb hts UX5 tyX5 tyX5_ok nmX5 hown hK hP hD hS 0 rfl rfl 0 (by decide) L15 (fun _ h9 => h9) rfl hin rfl (by decide +kernel) rfl rfl (Nat.le_of_ble_eq_true rfl) dX5_init_13 (fun H locs hP hD hS => ?_)
  have hP : va_P D vwCl [(h0, .inr (5, [.ref ha, .ref q_1, .int (iI (0)), .int (iI (0))])), (q_1, .inl (cI, 4, .inl (aI (fun _ => 0))))] H := hP
  have hD : va_D A [(h0, .inr (5, [.ref ha, .ref q_1, .int (iI (0)), .int (iI (0))])), (q_1, .inl (cI, 4, .inl (aI (fun _ => 0))))] := hD
  rw [hQ]; refine W.widen (k := 1) (n := 4) (Nat.le_of_ble_eq_true rfl) (Nat.le_of_ble_eq_true rfl) ?_
  exact jn_vret q_1 hx hb hr hlocks hS (hP.sub [0, 1] rfl) (hD.sub [0, 1] rfl rfl) trivial dX5_init_16
abbrev rmX6_init : Room := { frames := 1, cells := 1, slots := 256, locals := 12 }
set_option maxHeartbeats 4000000 in
set_option maxRecDepth 100000 in
theorem c_X6_init (l : Launch) (D : va_G) (cI cZ : ClassId) (z : jZT) (h0 ha hc he : Nat) : jNu (S := Nat) l yX6_init wsX6_init rmX6_init [.ref h0, .ref ha, .ref hc, .ref he] D cI cZ z [(h0, .inr (6, [.null, .null, .null, .null, .int (iI (0)), .int (iI (0)), .int (iI (0)), .int (iI (0)), .int (iI (0))]))] (fun u => True) (fun u => [(h0, .inr (6, [.ref ha, .ref hc, .ref he, .ref u, .int (iI (0)), .int (iI (0)), .int (iI (0)), .int (iI (0)), .int (iI (0))])), (u, .inl (cI, 256, .inl (aI (fun _ => 0))))]) 1 256 := by
  refine jNu_of (cc := cX6_init) (n := 4) (ret := none) (by decide) rfl rfl (Nat.le_of_ble_eq_true rfl) ?_
  intro p e s m below meth c A ls args Q hQ F hin hA hZ hP hK hD hS hl
  obtain ⟨hx, hb, hr, hml, hown, hts, hlocks⟩ := F
  have hown : s.vm.findClass RX6 = some m.cls := hown
  have hl : lv_has ls 4 [(0, .ref h0), (1, .ref ha), (2, .ref hc), (3, .ref he)] := hl
  have L9 := hts (.fieldLink RX6 9 "TinMouse$Starts" "inRounds" "[I") (by decide +kernel)
  have L15 := hts (.fieldLink RX6 15 "TinMouse$Starts" "seenStands" "LTinMouse$Marks;") (by decide +kernel)
  have L19 := hts (.fieldLink RX6 19 "TinMouse$Starts" "path" "[I") (by decide +kernel)
  have L22 := hts (.fieldLink RX6 22 "TinMouse$Starts" "lap" "LTinMouse$Lap;") (by decide +kernel)
  have UX6 : ∀ w ∈ wsX60, w ∈ wsX6_init := fun w h => List.mem_cons_of_mem _ (List.mem_append_right _ h)
  refine lv_aload_n hx hb dX6_init_0 rfl (lv_at hl 0 rfl) ?_
  refine W.objInit hx hb hown (hts (.methodLink RX6 3 objectInit) (by decide +kernel)) (hts (.instanceMethod objectInit) (by decide +kernel)) (hts (.code objectInit ⟨#[0xb1]⟩ 1 none) (by decide +kernel)) rfl (by rw [hml]; exact hl.1) rfl dX6_init_1 (Nat.le_of_ble_eq_true rfl) (Nat.le_of_ble_eq_true rfl) ?_
  refine W.eq (g2 := F0 m 4 ls []) rfl ?_
  refine lv_aload_n hx hb dX6_init_4 rfl (lv_at hl 0 rfl) ?_
  refine lv_sipush (v := iI (256)) hx hb dX6_init_5 (by decide) ?_
  refine j_newI (N := 256) hx hb (hts (.arrayClass .int) (by decide +kernel)) hK hP hD hS hA (by omega) (Nat.le_of_ble_eq_true rfl) (Nat.le_of_ble_eq_true rfl) dX6_init_8 (fun q_1 H hP hD hS => ?_)
  have hP : va_P D vwCl [(h0, .inr (6, [.null, .null, .null, .null, .int (iI (0)), .int (iI (0)), .int (iI (0)), .int (iI (0)), .int (iI (0))])), (q_1, .inl (cI, 256, .inl (aI (fun _ => 0))))] H := hP
  have hD : va_D A [(h0, .inr (6, [.null, .null, .null, .null, .int (iI (0)), .int (iI (0)), .int (iI (0)), .int (iI (0)), .int (iI (0))])), (q_1, .inl (cI, 256, .inl (aI (fun _ => 0))))] := hD
  refine va_putF (D := D) (ci := 6) (v := .ref q_1) (ty := .array .int) (C := RX6) (T := TX6) (N := 9) hx hb hts UX6 tyX6 tyX6_ok nmX6 hown hK hP hD hS 0 rfl rfl 3 (by decide) L9 (fun _ h9 => h9) rfl hin rfl (by decide +kernel) rfl rfl (Nat.le_of_ble_eq_true rfl) dX6_init_10 (fun H locs hP hD hS => ?_)
  have hP : va_P D vwCl [(h0, .inr (6, [.null, .null, .null, .ref q_1, .int (iI (0)), .int (iI (0)), .int (iI (0)), .int (iI (0)), .int (iI (0))])), (q_1, .inl (cI, 256, .inl (aI (fun _ => 0))))] H := hP
  have hD : va_D A [(h0, .inr (6, [.null, .null, .null, .ref q_1, .int (iI (0)), .int (iI (0)), .int (iI (0)), .int (iI (0)), .int (iI (0))])), (q_1, .inl (cI, 256, .inl (aI (fun _ => 0))))] := hD
  refine lv_aload_n hx hb dX6_init_13 rfl (lv_at hl 0 rfl) ?_
  refine lv_aload_n hx hb dX6_init_14 rfl (lv_at hl 1 rfl) ?_
  refine va_putF (D := D) (ci := 6) (v := .ref ha) (ty := .object "TinMouse$Marks") (C := RX6) (T := TX6) (N := 9) hx hb hts UX6 tyX6 tyX6_ok nmX6 hown hK hP hD hS 0 rfl rfl 0 (by decide) L15 (fun _ h9 => h9) rfl hin rfl (by decide +kernel) rfl rfl (Nat.le_of_ble_eq_true rfl) dX6_init_15 (fun H locs hP hD hS => ?_)
  have hP : va_P D vwCl [(h0, .inr (6, [.ref ha, .null, .null, .ref q_1, .int (iI (0)), .int (iI (0)), .int (iI (0)), .int (iI (0)), .int (iI (0))])), (q_1, .inl (cI, 256, .inl (aI (fun _ => 0))))] H := hP
  have hD : va_D A [(h0, .inr (6, [.ref ha, .null, .null, .ref q_1, .int (iI (0)), .int (iI (0)), .int (iI (0)), .int (iI (0)), .int (iI (0))])), (q_1, .inl (cI, 256, .inl (aI (fun _ => 0))))] := hD
  refine lv_aload_n hx hb dX6_init_18 rfl (lv_at hl 0 rfl) ?_
  refine lv_aload_n hx hb dX6_init_19 rfl (lv_at hl 2 rfl) ?_
  refine va_putF (D := D) (ci := 6) (v := .ref hc) (ty := .array .int) (C := RX6) (T := TX6) (N := 9) hx hb hts UX6 tyX6 tyX6_ok nmX6 hown hK hP hD hS 0 rfl rfl 1 (by decide) L19 (fun _ h9 => h9) rfl hin rfl (by decide +kernel) rfl rfl (Nat.le_of_ble_eq_true rfl) dX6_init_20 (fun H locs hP hD hS => ?_)
  have hP : va_P D vwCl [(h0, .inr (6, [.ref ha, .ref hc, .null, .ref q_1, .int (iI (0)), .int (iI (0)), .int (iI (0)), .int (iI (0)), .int (iI (0))])), (q_1, .inl (cI, 256, .inl (aI (fun _ => 0))))] H := hP
  have hD : va_D A [(h0, .inr (6, [.ref ha, .ref hc, .null, .ref q_1, .int (iI (0)), .int (iI (0)), .int (iI (0)), .int (iI (0)), .int (iI (0))])), (q_1, .inl (cI, 256, .inl (aI (fun _ => 0))))] := hD
  refine lv_aload_n hx hb dX6_init_23 rfl (lv_at hl 0 rfl) ?_
  refine lv_aload_n hx hb dX6_init_24 rfl (lv_at hl 3 rfl) ?_
  refine va_putF (D := D) (ci := 6) (v := .ref he) (ty := .object "TinMouse$Lap") (C := RX6) (T := TX6) (N := 9) hx hb hts UX6 tyX6 tyX6_ok nmX6 hown hK hP hD hS 0 rfl rfl 2 (by decide) L22 (fun _ h9 => h9) rfl hin rfl (by decide +kernel) rfl rfl (Nat.le_of_ble_eq_true rfl) dX6_init_25 (fun H locs hP hD hS => ?_)
  have hP : va_P D vwCl [(h0, .inr (6, [.ref ha, .ref hc, .ref he, .ref q_1, .int (iI (0)), .int (iI (0)), .int (iI (0)), .int (iI (0)), .int (iI (0))])), (q_1, .inl (cI, 256, .inl (aI (fun _ => 0))))] H := hP
  have hD : va_D A [(h0, .inr (6, [.ref ha, .ref hc, .ref he, .ref q_1, .int (iI (0)), .int (iI (0)), .int (iI (0)), .int (iI (0)), .int (iI (0))])), (q_1, .inl (cI, 256, .inl (aI (fun _ => 0))))] := hD
  rw [hQ]; refine W.widen (k := 1) (n := 256) (Nat.le_of_ble_eq_true rfl) (Nat.le_of_ble_eq_true rfl) ?_
  exact jn_vret q_1 hx hb hr hlocks hS (hP.sub [0, 1] rfl) (hD.sub [0, 1] rfl rfl) trivial dX6_init_28
abbrev rmX7_init : Room := { frames := 1, cells := 1, slots := 256, locals := 21 }
set_option maxHeartbeats 4000000 in
set_option maxRecDepth 100000 in
theorem c_X7_init (l : Launch) (D : va_G) (cI cZ : ClassId) (z : jZT) (h0 : Nat) : jNu (S := Nat × (Int → Int)) l yX7_init wsX7_init rmX7_init [.ref h0] D cI cZ z [(h0, .inr (7, [.null, .int (iI (0)), .int (iI (0)), .int (iI (0)), .int (iI (0)), .int (iI (0)), .int (iI (0)), .int (iI (0)), .int (iI (0)), .int (iI (0))]))] (fun u => ∀ j : Int, 0 ≤ j → j < 256 → u.2 j = 0) (fun u => [(h0, .inr (7, [.ref (u.1), .int (iI (8)), .int (iI (8)), .int (iI (-9)), .int (iI (0)), .int (iI (2)), .int (iI (1)), .int (iI (3)), .int (iI (0)), .int (iI (200))])), (u.1, .inl (cI, 256, .inl (aI u.2)))]) 1 256 := by
  refine jNu_of (cc := cX7_init) (n := 1) (ret := none) (by decide) rfl rfl (Nat.le_of_ble_eq_true rfl) ?_
  intro p e s m below meth c A ls args Q hQ F hin hA hZ hP hK hD hS hl
  obtain ⟨hx, hb, hr, hml, hown, hts, hlocks⟩ := F
  have hown : s.vm.findClass RX7 = some m.cls := hown
  have hl : lv_has ls 1 [(0, .ref h0)] := hl
  have L9 := hts (.fieldLink RX7 9 "TinMouse$Table" "kinds" "[I") (by decide +kernel)
  have UX7 : ∀ w ∈ wsX70, w ∈ wsX7_init := fun w h => List.mem_cons_of_mem _ (List.mem_append_right _ h)
  refine lv_aload_n hx hb dX7_init_0 rfl (lv_at hl 0 rfl) ?_
  refine W.objInit hx hb hown (hts (.methodLink RX7 3 objectInit) (by decide +kernel)) (hts (.instanceMethod objectInit) (by decide +kernel)) (hts (.code objectInit ⟨#[0xb1]⟩ 1 none) (by decide +kernel)) rfl (by rw [hml]; exact hl.1) rfl dX7_init_1 (Nat.le_of_ble_eq_true rfl) (Nat.le_of_ble_eq_true rfl) ?_
  refine W.eq (g2 := F0 m 4 ls []) rfl ?_
  refine lv_aload_n hx hb dX7_init_4 rfl (lv_at hl 0 rfl) ?_
  refine lv_sipush (v := iI (256)) hx hb dX7_init_5 (by decide) ?_
  refine j_newI (N := 256) hx hb (hts (.arrayClass .int) (by decide +kernel)) hK hP hD hS hA (by omega) (Nat.le_of_ble_eq_true rfl) (Nat.le_of_ble_eq_true rfl) dX7_init_8 (fun q_1 H hP hD hS => ?_)
  have hP : va_P D vwCl [(h0, .inr (7, [.null, .int (iI (0)), .int (iI (0)), .int (iI (0)), .int (iI (0)), .int (iI (0)), .int (iI (0)), .int (iI (0)), .int (iI (0)), .int (iI (0))])), (q_1, .inl (cI, 256, .inl (aI (fun _ => 0))))] H := hP
  have hD : va_D A [(h0, .inr (7, [.null, .int (iI (0)), .int (iI (0)), .int (iI (0)), .int (iI (0)), .int (iI (0)), .int (iI (0)), .int (iI (0)), .int (iI (0)), .int (iI (0))])), (q_1, .inl (cI, 256, .inl (aI (fun _ => 0))))] := hD
  refine va_putF (D := D) (ci := 7) (v := .ref q_1) (ty := .array .int) (C := RX7) (T := TX7) (N := 10) hx hb hts UX7 tyX7 tyX7_ok nmX7 hown hK hP hD hS 0 rfl rfl 0 (by decide) L9 (fun _ h9 => h9) rfl hin rfl (by decide +kernel) rfl rfl (Nat.le_of_ble_eq_true rfl) dX7_init_10 (fun H locs hP hD hS => ?_)
  have hP : va_P D vwCl [(h0, .inr (7, [.ref q_1, .int (iI (0)), .int (iI (0)), .int (iI (0)), .int (iI (0)), .int (iI (0)), .int (iI (0)), .int (iI (0)), .int (iI (0)), .int (iI (0))])), (q_1, .inl (cI, 256, .inl (aI (fun _ => 0))))] H := hP
  have hD : va_D A [(h0, .inr (7, [.ref q_1, .int (iI (0)), .int (iI (0)), .int (iI (0)), .int (iI (0)), .int (iI (0)), .int (iI (0)), .int (iI (0)), .int (iI (0)), .int (iI (0))])), (q_1, .inl (cI, 256, .inl (aI (fun _ => 0))))] := hD
  refine lv_aload_n hx hb dX7_init_13 rfl (lv_at hl 0 rfl) ?_
  refine j_muv (va_runV (As := []) (rest := []) ⟨hx, hb, hml, hown, hts⟩ (c_X7_reset l D cI cZ z h0 q_1 0 0 0 0 0 0 0 0 0 (fun _ => 0)  H.size) (cwV 0 hts gX7_init_X7_reset rfl rfl rfl hvX7_reset ⟨Nat.le_of_ble_eq_true rfl, Nat.le_of_ble_eq_true rfl⟩) (j_preV hP hD hK hS hZ hA [0, 1] rfl rfl 0 rfl rfl) rfl rfl hl.1 rfl (lv_room (Nat.le_of_ble_eq_true rfl)) dX7_init_14 ⟨Nat.le_of_ble_eq_true rfl, Nat.le_of_ble_eq_true rfl⟩) hP hD hS hA [0, 1] rfl (fun _ => rfl) (fun gz H locs hw_14 hP hD hS => ?_)
  have hP : va_P D vwCl [(h0, .inr (7, [.ref q_1, .int (iI (8)), .int (iI (8)), .int (iI (-9)), .int (iI (0)), .int (iI (2)), .int (iI (1)), .int (iI (3)), .int (iI (0)), .int (iI (200))])), (q_1, .inl (cI, 256, .inl (aI gz)))] H := hP
  have hD : va_D A [(h0, .inr (7, [.ref q_1, .int (iI (8)), .int (iI (8)), .int (iI (-9)), .int (iI (0)), .int (iI (2)), .int (iI (1)), .int (iI (3)), .int (iI (0)), .int (iI (200))])), (q_1, .inl (cI, 256, .inl (aI gz)))] := hD
  rw [hQ]; refine W.widen (k := 1) (n := 256) (Nat.le_of_ble_eq_true rfl) (Nat.le_of_ble_eq_true rfl) ?_
  exact jn_vret (q_1, gz) hx hb hr hlocks hS (hP.sub [0, 1] rfl) (hD.sub [0, 1] rfl rfl) (by (try dsimp only); exact hw_14) dX7_init_17
theorem hsX4_init : yX4_init.cls ≠ "java/lang/invoke/MethodHandle" ∧ yX4_init.cls ≠ "java/lang/invoke/VarHandle" ∧ (parseMethodDescriptor yX4_init.desc).map (fun d => d.parameters.length) = some 0 := by decide +kernel
theorem hvX4_init : yX4_init.cls = RX4 ∧ yX4_init.cls ≠ "java/lang/invoke/MethodHandle" ∧ yX4_init.cls ≠ "java/lang/invoke/VarHandle" ∧ (parseMethodDescriptor yX4_init.desc).map (fun d => d.parameters.length) = some 0 := ⟨rfl, hsX4_init⟩
abbrev rmX0_init : Room := { frames := 2, cells := 1, slots := 10, locals := 32 }
set_option maxHeartbeats 4000000 in
set_option maxRecDepth 100000 in
theorem c_X0_init (l : Launch) (D : va_G) (cI cZ : ClassId) (z : jZT) (h0 : Nat) : jNu (S := Nat) l yX0_init wsX0_init rmX0_init [.ref h0] D cI cZ z [(h0, .inr (0, [.null, .int (iI (0)), .int (iI (bI false))]))] (fun u => True) (fun u => [(h0, .inr (0, [.ref u, .int (iI (0)), .int (iI (bI false))])), (u, .inr (4, [.int (iI (0)), .int (iI (0)), .int (iI (0)), .int (iI (0)), .int (iI (0)), .int (iI (0)), .int (iI (0)), .int (iI (0)), .int (iI (0)), .int (iI (0))]))]) 1 10 := by
  refine jNu_of (cc := cX0_init) (n := 1) (ret := none) (by decide) rfl rfl (Nat.le_of_ble_eq_true rfl) ?_
  intro p e s m below meth c A ls args Q hQ F hin hA hZ hP hK hD hS hl
  obtain ⟨hx, hb, hr, hml, hown, hts, hlocks⟩ := F
  have hown : s.vm.findClass RX0 = some m.cls := hown
  have hl : lv_has ls 1 [(0, .ref h0)] := hl
  have L10 := hts (.fieldLink RX0 10 "TinMouse$Image" "now" "LTinMouse$Now;") (by decide +kernel)
  have UX0 : ∀ w ∈ wsX00, w ∈ wsX0_init := fun w h => List.mem_cons_of_mem _ (List.mem_append_right _ h)
  have UX4 : ∀ w ∈ wsX40, w ∈ wsX0_init := fun w h => List.mem_cons_of_mem _ (List.mem_append_left _ (List.mem_append_right _ h))
  refine lv_aload_n hx hb dX0_init_0 rfl (lv_at hl 0 rfl) ?_
  refine W.objInit hx hb hown (hts (.methodLink RX0 1 objectInit) (by decide +kernel)) (hts (.instanceMethod objectInit) (by decide +kernel)) (hts (.code objectInit ⟨#[0xb1]⟩ 1 none) (by decide +kernel)) rfl (by rw [hml]; exact hl.1) rfl dX0_init_1 (Nat.le_of_ble_eq_true rfl) (Nat.le_of_ble_eq_true rfl) ?_
  refine W.eq (g2 := F0 m 4 ls []) rfl ?_
  refine lv_aload_n hx hb dX0_init_4 rfl (lv_at hl 0 rfl) ?_
  refine va_new (D := D) (ci := 4) (fs := [.int (iI (0)), .int (iI (0)), .int (iI (0)), .int (iI (0)), .int (iI (0)), .int (iI (0)), .int (iI (0)), .int (iI (0)), .int (iI (0)), .int (iI (0))]) (C := RX4) (T := TX4) (N := 10) hx hb hts UX4 tyX4 tyX4_ok hown (hts (.classLink RX0 7 RX4) (by decide +kernel)) (hts (.instantiable RX4 10) (by decide +kernel)) (hts (.initialized RX4) (by decide +kernel)) hK hP hD hS hA rfl (fun j hj => by rcases (show j = 0 ∨ j = 1 ∨ j = 2 ∨ j = 3 ∨ j = 4 ∨ j = 5 ∨ j = 6 ∨ j = 7 ∨ j = 8 ∨ j = 9 by omega) with rfl | rfl | rfl | rfl | rfl | rfl | rfl | rfl | rfl | rfl <;> rfl) (Nat.le_of_ble_eq_true rfl) (Nat.le_of_ble_eq_true rfl) dX0_init_5 (fun q_1 H hP hD hS => ?_)
  have hP : va_P D vwCl [(h0, .inr (0, [.null, .int (iI (0)), .int (iI (bI false))])), (q_1, .inr (4, [.int (iI (0)), .int (iI (0)), .int (iI (0)), .int (iI (0)), .int (iI (0)), .int (iI (0)), .int (iI (0)), .int (iI (0)), .int (iI (0)), .int (iI (0))]))] H := hP
  have hD : va_D A [(h0, .inr (0, [.null, .int (iI (0)), .int (iI (bI false))])), (q_1, .inr (4, [.int (iI (0)), .int (iI (0)), .int (iI (0)), .int (iI (0)), .int (iI (0)), .int (iI (0)), .int (iI (0)), .int (iI (0)), .int (iI (0)), .int (iI (0))]))] := hD
  refine lv_dup hx hb dX0_init_8 rfl ?_
  refine j_nuv (wr := [(h0, .inr (0, [.null, .int (iI (0)), .int (iI (bI false))]))]) (va_runIN (As := []) (rest := [.ref q_1, .ref h0]) ⟨hx, hb, hml, hown, hts⟩ (c_X4_init l D cI cZ z q_1  H.size) ⟨va_cnB 0 hts gX0_init_X4_init_n9 rfl rfl rfl (hZ.2.2.2.2.2 _ (List.mem_of_getElem? (i := 3) rfl)) (hts (.initialized RX4) (by decide +kernel)) hsX4_init ⟨Nat.le_of_ble_eq_true rfl, Nat.le_of_ble_eq_true rfl⟩, rfl, (hts (.instanceMethod yX4_init) (by decide +kernel))⟩ (j_preS hP hD hK hS hZ hA [1] rfl rfl) rfl rfl hl.1 rfl (lv_room (Nat.le_of_ble_eq_true rfl)) dX0_init_9 ⟨Nat.le_of_ble_eq_true rfl, Nat.le_of_ble_eq_true rfl⟩) hP hD hS hA [1] [0] rfl rfl rfl (by decide) (fun _ H locs hw_9 hP hD hS => ?_)
  have hP : va_P D vwCl [(h0, .inr (0, [.null, .int (iI (0)), .int (iI (bI false))])), (q_1, .inr (4, [.int (iI (0)), .int (iI (0)), .int (iI (0)), .int (iI (0)), .int (iI (0)), .int (iI (0)), .int (iI (0)), .int (iI (0)), .int (iI (0)), .int (iI (0))]))] H := hP
  have hD : va_D A [(h0, .inr (0, [.null, .int (iI (0)), .int (iI (bI false))])), (q_1, .inr (4, [.int (iI (0)), .int (iI (0)), .int (iI (0)), .int (iI (0)), .int (iI (0)), .int (iI (0)), .int (iI (0)), .int (iI (0)), .int (iI (0)), .int (iI (0))]))] := hD
  refine va_putF (D := D) (ci := 0) (v := .ref q_1) (ty := .object "TinMouse$Now") (C := RX0) (T := TX0) (N := 3) hx hb hts UX0 tyX0 tyX0_ok nmX0 hown hK hP hD hS 0 rfl rfl 0 (by decide) L10 (fun _ h9 => h9) rfl hin rfl (by decide +kernel) rfl rfl (Nat.le_of_ble_eq_true rfl) dX0_init_12 (fun H locs hP hD hS => ?_)
  have hP : va_P D vwCl [(h0, .inr (0, [.ref q_1, .int (iI (0)), .int (iI (bI false))])), (q_1, .inr (4, [.int (iI (0)), .int (iI (0)), .int (iI (0)), .int (iI (0)), .int (iI (0)), .int (iI (0)), .int (iI (0)), .int (iI (0)), .int (iI (0)), .int (iI (0))]))] H := hP
  have hD : va_D A [(h0, .inr (0, [.ref q_1, .int (iI (0)), .int (iI (bI false))])), (q_1, .inr (4, [.int (iI (0)), .int (iI (0)), .int (iI (0)), .int (iI (0)), .int (iI (0)), .int (iI (0)), .int (iI (0)), .int (iI (0)), .int (iI (0)), .int (iI (0))]))] := hD
  rw [hQ]; refine W.widen (k := 1) (n := 10) (Nat.le_of_ble_eq_true rfl) (Nat.le_of_ble_eq_true rfl) ?_
  exact jn_vret q_1 hx hb hr hlocks hS (hP.sub [0, 1] rfl) (hD.sub [0, 1] rfl rfl) trivial dX0_init_15
