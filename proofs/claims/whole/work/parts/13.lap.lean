abbrev rmX2_empty : Room := { frames := 0, cells := 0, slots := 0, locals := 0 }
set_option maxHeartbeats 4000000 in
set_option maxRecDepth 100000 in
theorem c_X2_empty (l : Launch) (D : va_G) (cI cZ : ClassId) (z : jZT) (h0 h1 : Nat) (le mo ce : Int) : jMu (S := Unit) l yX2_empty wsX2_empty rmX2_empty [.ref h0] D cI cZ z [(h0, .inr (2, [.ref h1, .int (iI (le)), .int (iI (mo)), .int (iI (ce))]))] (fun u => none) (fun u => True) (fun u => [(h0, .inr (2, [.ref h1, .int (iI (0)), .int (iI (0)), .int (iI (0))]))]) := by
  refine jMu_of (cc := cX2_empty) (n := 1) (ret := none) (by decide) rfl (Nat.le_of_ble_eq_true rfl) ?_
  intro p e s m below meth c A ls args Q hQ F hA hZ hP hK hD hS hl
  obtain ⟨hx, hb, hr, hml, hown, hts, hlocks⟩ := F
  have hown : s.vm.findClass RX2 = some m.cls := hown
  have hl : lv_has ls 1 [(0, .ref h0)] := hl
  have L15 := hts (.fieldLink RX2 15 "TinMouse$Lap" "length" "I") (by decide +kernel)
  have L19 := hts (.fieldLink RX2 19 "TinMouse$Lap" "moves" "I") (by decide +kernel)
  have L22 := hts (.fieldLink RX2 22 "TinMouse$Lap" "cells" "I") (by decide +kernel)
  have UX2 : ∀ w ∈ wsX20, w ∈ wsX2_empty := fun w h => List.mem_cons_of_mem _ (List.mem_append_right _ h)
  refine lv_aload_n hx hb dX2_empty_0 rfl (lv_at hl 0 rfl) ?_
  refine lv_iconst (v := iI (0)) hx hb dX2_empty_1 rfl ?_
  refine va_put (D := D) (ci := 2) (v := .int (iI (0))) (ty := .int) (C := RX2) (T := TX2) (N := 4) hx hb hts UX2 tyX2 tyX2_ok nmX2 hown hK hP hD hS 0 rfl rfl 1 (by decide) L15 (fun _ h9 => h9) rfl rfl rfl rfl (Nat.le_of_ble_eq_true rfl) dX2_empty_2 (fun H locs hP hD hS => ?_)
  have hP : va_P D vwCl [(h0, .inr (2, [.ref h1, .int (iI (0)), .int (iI (mo)), .int (iI (ce))]))] H := hP
  have hD : va_D A [(h0, .inr (2, [.ref h1, .int (iI (0)), .int (iI (mo)), .int (iI (ce))]))] := hD
  refine lv_aload_n hx hb dX2_empty_5 rfl (lv_at hl 0 rfl) ?_
  refine lv_iconst (v := iI (0)) hx hb dX2_empty_6 rfl ?_
  refine va_put (D := D) (ci := 2) (v := .int (iI (0))) (ty := .int) (C := RX2) (T := TX2) (N := 4) hx hb hts UX2 tyX2 tyX2_ok nmX2 hown hK hP hD hS 0 rfl rfl 2 (by decide) L19 (fun _ h9 => h9) rfl rfl rfl rfl (Nat.le_of_ble_eq_true rfl) dX2_empty_7 (fun H locs hP hD hS => ?_)
  have hP : va_P D vwCl [(h0, .inr (2, [.ref h1, .int (iI (0)), .int (iI (0)), .int (iI (ce))]))] H := hP
  have hD : va_D A [(h0, .inr (2, [.ref h1, .int (iI (0)), .int (iI (0)), .int (iI (ce))]))] := hD
  refine lv_aload_n hx hb dX2_empty_10 rfl (lv_at hl 0 rfl) ?_
  refine lv_iconst (v := iI (0)) hx hb dX2_empty_11 rfl ?_
  refine va_put (D := D) (ci := 2) (v := .int (iI (0))) (ty := .int) (C := RX2) (T := TX2) (N := 4) hx hb hts UX2 tyX2 tyX2_ok nmX2 hown hK hP hD hS 0 rfl rfl 3 (by decide) L22 (fun _ h9 => h9) rfl rfl rfl rfl (Nat.le_of_ble_eq_true rfl) dX2_empty_12 (fun H locs hP hD hS => ?_)
  have hP : va_P D vwCl [(h0, .inr (2, [.ref h1, .int (iI (0)), .int (iI (0)), .int (iI (0))]))] H := hP
  have hD : va_D A [(h0, .inr (2, [.ref h1, .int (iI (0)), .int (iI (0)), .int (iI (0))]))] := hD
  rw [hQ]; exact jm_vret () hx hb hr hlocks hS hP rfl trivial dX2_empty_15
theorem hsX2_empty : yX2_empty.cls ≠ "java/lang/invoke/MethodHandle" ∧ yX2_empty.cls ≠ "java/lang/invoke/VarHandle" ∧ (parseMethodDescriptor yX2_empty.desc).map (fun d => d.parameters.length) = some 0 := by decide +kernel
theorem hvX2_empty : yX2_empty.cls = RX2 ∧ yX2_empty.cls ≠ "java/lang/invoke/MethodHandle" ∧ yX2_empty.cls ≠ "java/lang/invoke/VarHandle" ∧ (parseMethodDescriptor yX2_empty.desc).map (fun d => d.parameters.length) = some 0 := ⟨rfl, hsX2_empty⟩
theorem hsX3_renew : yX3_renew.cls ≠ "java/lang/invoke/MethodHandle" ∧ yX3_renew.cls ≠ "java/lang/invoke/VarHandle" ∧ (parseMethodDescriptor yX3_renew.desc).map (fun d => d.parameters.length) = some 1 := by decide +kernel
theorem hvX3_renew : yX3_renew.cls = RX3 ∧ yX3_renew.cls ≠ "java/lang/invoke/MethodHandle" ∧ yX3_renew.cls ≠ "java/lang/invoke/VarHandle" ∧ (parseMethodDescriptor yX3_renew.desc).map (fun d => d.parameters.length) = some 1 := ⟨rfl, hsX3_renew⟩
theorem hsX9_after : yX9_after.cls ≠ "java/lang/invoke/MethodHandle" ∧ yX9_after.cls ≠ "java/lang/invoke/VarHandle" ∧ (parseMethodDescriptor yX9_after.desc).map (fun d => d.parameters.length) = some 1 := by decide +kernel
theorem hvX9_after : yX9_after.cls = RX9 ∧ yX9_after.cls ≠ "java/lang/invoke/MethodHandle" ∧ yX9_after.cls ≠ "java/lang/invoke/VarHandle" ∧ (parseMethodDescriptor yX9_after.desc).map (fun d => d.parameters.length) = some 1 := ⟨rfl, hsX9_after⟩
theorem hsX3_add : yX3_add.cls ≠ "java/lang/invoke/MethodHandle" ∧ yX3_add.cls ≠ "java/lang/invoke/VarHandle" ∧ (parseMethodDescriptor yX3_add.desc).map (fun d => d.parameters.length) = some 1 := by decide +kernel
theorem hvX3_add : yX3_add.cls = RX3 ∧ yX3_add.cls ≠ "java/lang/invoke/MethodHandle" ∧ yX3_add.cls ≠ "java/lang/invoke/VarHandle" ∧ (parseMethodDescriptor yX3_add.desc).map (fun d => d.parameters.length) = some 1 := ⟨rfl, hsX3_add⟩
abbrev rmX2_run : Room := { frames := 2, cells := 0, slots := 0, locals := 46 }
set_option maxHeartbeats 4000000 in
set_option maxRecDepth 100000 in
theorem c_X2_run (l : Launch) (D : va_G) (cI cZ : ClassId) (z : jZT) (h0 h3 h1 h2 h4 : Nat) (q le mo ce ba to ln wt wb : Int) (mk a : Int → Int) (f : Int → Int) (N : Int) (p9 : Nat) (hf : NxtI a wt wb f N) (hM : MkI 256 mk ba to) (hp : LapI f q N p9) : jMu (S := (Int → Int) × Int × Int × Int × Int) l yX2_run wsX2_run rmX2_run [.ref h0, .ref h3, .int (iI (q))] D cI cZ z [(h0, .inr (2, [.ref h1, .int (iI (le)), .int (iI (mo)), .int (iI (ce))])), (h1, .inr (3, [.ref h2, .int (iI (ba)), .int (iI (to))])), (h2, .inl (cI, 256, .inl (aI mk))), (h3, .inr (9, [.ref h4, .int (iI (ln)), .int (iI (wt)), .int (iI (wb))])), (h4, .inl (cI, 2048, .inl (aI a)))] (fun u => none) (fun u => MkI 256 u.1 u.2.1 1 ∧ u.2.2.1 = (p9 : Int) ∧ u.2.2.2.1 = mvN f q p9 ∧ u.2.2.2.2 = ceN f q p9) (fun u => [(h0, .inr (2, [.ref h1, .int (iI (u.2.2.1)), .int (iI (u.2.2.2.1)), .int (iI (u.2.2.2.2))])), (h1, .inr (3, [.ref h2, .int (iI (u.2.1)), .int (iI (1))])), (h2, .inl (cI, 256, .inl (aI u.1))), (h3, .inr (9, [.ref h4, .int (iI (ln)), .int (iI (wt)), .int (iI (wb))])), (h4, .inl (cI, 2048, .inl (aI a)))]) := by
  refine jMu_of (cc := cX2_run) (n := 5) (ret := none) (by decide) rfl (Nat.le_of_ble_eq_true rfl) ?_
  intro p e s m below meth c A ls args Q hQ F hA hZ hP hK hD hS hl
  obtain ⟨hx, hb, hr, hml, hown, hts, hlocks⟩ := F
  have hown : s.vm.findClass RX2 = some m.cls := hown
  have hl : lv_has ls 5 [(0, .ref h0), (1, .ref h3), (2, .int (iI (q)))] := hl
  have L9 := hts (.fieldLink RX2 9 "TinMouse$Lap" "seenCells" "LTinMouse$Marks;") (by decide +kernel)
  have L22 := hts (.fieldLink RX2 22 "TinMouse$Lap" "cells" "I") (by decide +kernel)
  have IRX10 := hts (.initialized RX10) (by decide +kernel)
  have STyX10_cellOf := hts (.static yX10_cellOf) (by decide +kernel)
  have L19 := hts (.fieldLink RX2 19 "TinMouse$Lap" "moves" "I") (by decide +kernel)
  have L15 := hts (.fieldLink RX2 15 "TinMouse$Lap" "length" "I") (by decide +kernel)
  have UX2 : ∀ w ∈ wsX20, w ∈ wsX2_run := fun w h => List.mem_cons_of_mem _ (List.mem_append_left _ (List.mem_append_left _ (List.mem_append_right _ h)))
  have hN := hf.2.1
  obtain ⟨hp1, hp2, hp3, hp4, hp5⟩ := hp
  have hq0 := hp5 0 (by omega)
  rw [itn] at hq0
  refine lv_aload_n hx hb dX2_run_0 rfl (lv_at hl 0 rfl) ?_
  refine j_muv (va_runV (As := []) (rest := []) ⟨hx, hb, hml, hown, hts⟩ (c_X2_empty l D cI cZ z h0 h1 le mo ce  s.heap.size) (cwV 0 hts gX2_run_X2_empty rfl rfl rfl hvX2_empty ⟨Nat.le_of_ble_eq_true rfl, Nat.le_of_ble_eq_true rfl⟩) (j_preV hP hD hK hS hZ hA [0] rfl rfl 0 rfl rfl) rfl rfl hl.1 rfl (lv_room (Nat.le_of_ble_eq_true rfl)) dX2_run_1 ⟨Nat.zero_le _, Nat.zero_le _⟩) hP hD hS hA [0] rfl (fun _ => rfl) (fun _ H locs hw_1 hP hD hS => ?_)
  have hP : va_P D vwCl [(h0, .inr (2, [.ref h1, .int (iI (0)), .int (iI (0)), .int (iI (0))])), (h1, .inr (3, [.ref h2, .int (iI (ba)), .int (iI (to))])), (h2, .inl (cI, 256, .inl (aI mk))), (h3, .inr (9, [.ref h4, .int (iI (ln)), .int (iI (wt)), .int (iI (wb))])), (h4, .inl (cI, 2048, .inl (aI a)))] H := hP
  have hD : va_D A [(h0, .inr (2, [.ref h1, .int (iI (0)), .int (iI (0)), .int (iI (0))])), (h1, .inr (3, [.ref h2, .int (iI (ba)), .int (iI (to))])), (h2, .inl (cI, 256, .inl (aI mk))), (h3, .inr (9, [.ref h4, .int (iI (ln)), .int (iI (wt)), .int (iI (wb))])), (h4, .inl (cI, 2048, .inl (aI a)))] := hD
  refine lv_aload_n hx hb dX2_run_4 rfl (lv_at hl 0 rfl) ?_
  refine va_get (D := D) (ci := 2) (v := .ref h1) (C := RX2) (T := TX2) (N := 4) hx hb hts UX2 hown hK hP 0 rfl rfl 0 (by decide) L9 (fun _ h9 => h9) rfl dX2_run_5 ?_
  refine lv_iconst (v := iI (1)) hx hb dX2_run_8 rfl ?_
  refine j_muv (va_runV (As := [.int (iI (1))]) (rest := []) ⟨hx, hb, hml, hown, hts⟩ (c_X3_renew l D cI cZ z h1 h2 1 ba to mk 256 (by first | assumption | omega) (by first | assumption | omega) (by first | assumption | omega) H.size) (cwV 1 hts gX2_run_X3_renew rfl rfl rfl hvX3_renew ⟨Nat.le_of_ble_eq_true rfl, Nat.le_of_ble_eq_true rfl⟩) (j_preV hP hD hK hS hZ hA [1, 2] rfl rfl 1 rfl rfl) rfl rfl hl.1 rfl (lv_room (Nat.le_of_ble_eq_true rfl)) dX2_run_9 ⟨Nat.zero_le _, Nat.zero_le _⟩) hP hD hS hA [1, 2] rfl (fun _ => rfl) (fun u_9 H locs hw_9 hP hD hS => ?_)
  obtain ⟨mk2_1, ba2_2⟩ := u_9
  dsimp only at hw_9
  have hP : va_P D vwCl [(h0, .inr (2, [.ref h1, .int (iI (0)), .int (iI (0)), .int (iI (0))])), (h1, .inr (3, [.ref h2, .int (iI (ba2_2)), .int (iI (1))])), (h2, .inl (cI, 256, .inl (aI mk2_1))), (h3, .inr (9, [.ref h4, .int (iI (ln)), .int (iI (wt)), .int (iI (wb))])), (h4, .inl (cI, 2048, .inl (aI a)))] H := hP
  have hD : va_D A [(h0, .inr (2, [.ref h1, .int (iI (0)), .int (iI (0)), .int (iI (0))])), (h1, .inr (3, [.ref h2, .int (iI (ba2_2)), .int (iI (1))])), (h2, .inl (cI, 256, .inl (aI mk2_1))), (h3, .inr (9, [.ref h4, .int (iI (ln)), .int (iI (wt)), .int (iI (wb))])), (h4, .inl (cI, 2048, .inl (aI a)))] := hD
  obtain ⟨hn1, hn2⟩ := hw_9
  refine lv_iload_n hx hb dX2_run_12 rfl (lv_at hl 2 rfl) ?_
  refine lv_istore_n (lv' := [(3, .int (iI (q))), (0, .ref h0), (1, .ref h3), (2, .int (iI (q)))]) hx hb dX2_run_13 rfl hl (by decide) rfl (fun ls hl => ?_)
  have loop_14 : ∀ (fuel_14 : Nat) (le9 : Int) (st9 : Int) (mo9 : Int) (ce9 : Int) (mk9 : Int → Int) (i : Nat), (i < p9 ∧ le9 = (i : Int) ∧ st9 = itn f q i ∧ mo9 = mvN f q i ∧ ce9 = ceN f q i ∧ MkI 256 mk9 ba2_2 1 ∧ SeenI mk9 ba2_2 f q i) → (p9 - i) < fuel_14 → ∀ (H : Heap) (locs : List Loc), va_P D vwCl [(h0, .inr (2, [.ref h1, .int (iI (le9)), .int (iI (mo9)), .int (iI (ce9))])), (h1, .inr (3, [.ref h2, .int (iI (ba2_2)), .int (iI (1))])), (h2, .inl (cI, 256, .inl (aI mk9))), (h3, .inr (9, [.ref h4, .int (iI (ln)), .int (iI (wt)), .int (iI (wb))])), (h4, .inl (cI, 2048, .inl (aI a)))] H → va_D A [(h0, .inr (2, [.ref h1, .int (iI (le9)), .int (iI (mo9)), .int (iI (ce9))])), (h1, .inr (3, [.ref h2, .int (iI (ba2_2)), .int (iI (1))])), (h2, .inl (cI, 256, .inl (aI mk9))), (h3, .inr (9, [.ref h4, .int (iI (ln)), .int (iI (wt)), .int (iI (wb))])), (h4, .inl (cI, 2048, .inl (aI a)))] → va_S A s.heap H locs → ∀ ls : Array Slot, lv_has ls 5 [(0, .ref h0), (1, .ref h3), (2, .int (iI (q))), (3, .int (iI (st9)))] → W p l e rmX2_run s m args below meth c H locs 0 0 Q (F0 m 14 ls []) := by
    intro fuel_14
    induction fuel_14 with
    | zero => intro le9 st9 mo9 ce9 mk9 i hI9 hm9; exact absurd hm9 (Nat.not_lt_zero _)
    | succ fuel_14 ih_14 =>
      intro le9 st9 mo9 ce9 mk9 i hI_14 hm_14 H locs hP hD hS ls hl
      obtain ⟨hi0, hi1, hi2, hi3, hi4, hi5, hi6⟩ := hI_14
      have hr1 := hp5 i (by omega)
      have hr2 := hp5 (i + 1) (by omega)
      have hnx : f (itn f q i) = itn f q (i + 1) := rfl
      subst hi2
      have hmr := mvN_rng f q i
      have hcr := ceN_rng f q i
      refine lv_aload_n hx hb dX2_run_14 rfl (lv_at hl 1 rfl) ?_
      refine lv_iload_n hx hb dX2_run_15 rfl (lv_at hl 3 rfl) ?_
      refine j_rd (va_runV (As := [.int (iI ((itn f q i)))]) (rest := []) ⟨hx, hb, hml, hown, hts⟩ (c_X9_after l D cI cZ z h3 h4 ((itn f q i)) ln wt wb a f N (by first | assumption | omega) (by first | assumption | omega) H.size) (cwV 1 hts gX2_run_X9_after rfl rfl rfl hvX9_after ⟨Nat.le_of_ble_eq_true rfl, Nat.le_of_ble_eq_true rfl⟩) (j_preV hP hD hK hS hZ hA [3, 4] rfl rfl 3 rfl rfl) rfl rfl hl.1 rfl (lv_room (Nat.le_of_ble_eq_true rfl)) dX2_run_16 ⟨Nat.zero_le _, Nat.zero_le _⟩) ?_
      rw [hnx]
      refine lv_istore (lv' := [(4, .int (iI (itn f q (i + 1)))), (0, .ref h0), (1, .ref h3), (2, .int (iI (q))), (3, .int (iI ((itn f q i))))]) hx hb dX2_run_19 hl (by decide) rfl (fun ls hl => ?_)
      refine lv_aload_n hx hb dX2_run_21 rfl (lv_at hl 1 rfl) ?_
      refine lv_dup hx hb dX2_run_22 rfl ?_
      refine va_get (D := D) (ci := 2) (v := .int (iI (ce9))) (C := RX2) (T := TX2) (N := 4) hx hb hts UX2 hown hK hP 0 rfl rfl 3 (by decide) L22 (fun _ h9 => h9) rfl dX2_run_23 ?_
      refine lv_aload_n hx hb dX2_run_26 rfl (lv_at hl 1 rfl) ?_
      refine va_get (D := D) (ci := 2) (v := .ref h1) (C := RX2) (T := TX2) (N := 4) hx hb hts UX2 hown hK hP 0 rfl rfl 0 (by decide) L9 (fun _ h9 => h9) rfl dX2_run_27 ?_
      refine lv_iload_n hx hb dX2_run_30 rfl (lv_at hl 4 rfl) ?_
      refine j_rd (va_runSN (As := [.int (iI ((itn f q i)))]) (rest := [.ref h1, .int (iI (ce9)), .ref h0]) ⟨hx, hb, hml, hown, hts⟩ (c_X10_cellOf l D cI cZ z ((itn f q i)) (by first | assumption | omega) H.size) ⟨va_cnB 1 hts gX2_run_X10_cellOf_n40 rfl rfl rfl (hZ.2.2.2.2.2 _ (List.mem_of_getElem? (i := 18) rfl)) IRX10 hsX10_cellOf ⟨Nat.le_of_ble_eq_true rfl, Nat.le_of_ble_eq_true rfl⟩, STyX10_cellOf, trivial⟩ (j_preS hP hD hK hS hZ hA [] rfl rfl) rfl rfl hl.1 rfl (lv_room (Nat.le_of_ble_eq_true rfl)) dX2_run_31 ⟨Nat.zero_le _, Nat.zero_le _⟩) ?_
      refine j_top (fun ck eck => ?_)
      rw [if_pos (by omega)] at eck
      refine j_mui (va_runV (As := [.int (iI (ck))]) (rest := [.int (iI (ce9)), .ref h0]) ⟨hx, hb, hml, hown, hts⟩ (c_X3_add l D cI cZ z h1 h2 ck ba2_2 1 mk9 256 (by first | assumption | omega) (by first | assumption | omega) (by first | assumption | omega) H.size) (cwV 1 hts gX2_run_X3_add rfl rfl rfl hvX3_add ⟨Nat.le_of_ble_eq_true rfl, Nat.le_of_ble_eq_true rfl⟩) (j_preV hP hD hK hS hZ hA [1, 2] rfl rfl 1 rfl rfl) rfl rfl hl.1 rfl (lv_room (Nat.le_of_ble_eq_true rfl)) dX2_run_34 ⟨Nat.zero_le _, Nat.zero_le _⟩) hP hD hS hA [1, 2] rfl (fun _ => rfl) (fun u_9 H locs hw_34 hP hD hS => ?_)
      obtain ⟨mk2_3, r_4⟩ := u_9
      dsimp only at hw_34
      have hP : va_P D vwCl [(h0, .inr (2, [.ref h1, .int (iI (le9)), .int (iI (mo9)), .int (iI (ce9))])), (h1, .inr (3, [.ref h2, .int (iI (ba2_2)), .int (iI (1))])), (h2, .inl (cI, 256, .inl (aI mk2_3))), (h3, .inr (9, [.ref h4, .int (iI (ln)), .int (iI (wt)), .int (iI (wb))])), (h4, .inl (cI, 2048, .inl (aI a)))] H := hP
      have hD : va_D A [(h0, .inr (2, [.ref h1, .int (iI (le9)), .int (iI (mo9)), .int (iI (ce9))])), (h1, .inr (3, [.ref h2, .int (iI (ba2_2)), .int (iI (1))])), (h2, .inl (cI, 256, .inl (aI mk2_3))), (h3, .inr (9, [.ref h4, .int (iI (ln)), .int (iI (wt)), .int (iI (wb))])), (h4, .inl (cI, 2048, .inl (aI a)))] := hD
      refine j_iadd hx hb dX2_run_37 ?_
      refine va_put (D := D) (ci := 2) (v := .int (iI (ce9 + r_4))) (ty := .int) (C := RX2) (T := TX2) (N := 4) hx hb hts UX2 tyX2 tyX2_ok nmX2 hown hK hP hD hS 0 rfl rfl 3 (by decide) L22 (fun _ h9 => h9) rfl rfl rfl rfl (Nat.le_of_ble_eq_true rfl) dX2_run_38 (fun H locs hP hD hS => ?_)
      have hP : va_P D vwCl [(h0, .inr (2, [.ref h1, .int (iI (le9)), .int (iI (mo9)), .int (iI (ce9 + r_4))])), (h1, .inr (3, [.ref h2, .int (iI (ba2_2)), .int (iI (1))])), (h2, .inl (cI, 256, .inl (aI mk2_3))), (h3, .inr (9, [.ref h4, .int (iI (ln)), .int (iI (wt)), .int (iI (wb))])), (h4, .inl (cI, 2048, .inl (aI a)))] H := hP
      have hD : va_D A [(h0, .inr (2, [.ref h1, .int (iI (le9)), .int (iI (mo9)), .int (iI (ce9 + r_4))])), (h1, .inr (3, [.ref h2, .int (iI (ba2_2)), .int (iI (1))])), (h2, .inl (cI, 256, .inl (aI mk2_3))), (h3, .inr (9, [.ref h4, .int (iI (ln)), .int (iI (wt)), .int (iI (wb))])), (h4, .inl (cI, 2048, .inl (aI a)))] := hD
      refine lv_aload_n hx hb dX2_run_41 rfl (lv_at hl 1 rfl) ?_
      refine lv_dup hx hb dX2_run_42 rfl ?_
      refine va_get (D := D) (ci := 2) (v := .int (iI (mo9))) (C := RX2) (T := TX2) (N := 4) hx hb hts UX2 hown hK hP 0 rfl rfl 2 (by decide) L19 (fun _ h9 => h9) rfl dX2_run_43 ?_
      refine lv_iload hx hb dX2_run_46 (lv_at hl 0 rfl) ?_
      refine j_rd (va_runSN (As := [.int (iI (itn f q (i + 1)))]) (rest := [.int (iI (mo9)), .ref h0]) ⟨hx, hb, hml, hown, hts⟩ (c_X10_cellOf l D cI cZ z (itn f q (i + 1)) (by first | assumption | omega) H.size) ⟨va_cnB 1 hts gX2_run_X10_cellOf_n40 rfl rfl rfl (hZ.2.2.2.2.2 _ (List.mem_of_getElem? (i := 18) rfl)) IRX10 hsX10_cellOf ⟨Nat.le_of_ble_eq_true rfl, Nat.le_of_ble_eq_true rfl⟩, STyX10_cellOf, trivial⟩ (j_preS hP hD hK hS hZ hA [] rfl rfl) rfl rfl hl.1 rfl (lv_room (Nat.le_of_ble_eq_true rfl)) dX2_run_48 ⟨Nat.zero_le _, Nat.zero_le _⟩) ?_
      refine j_top (fun ca eca => ?_)
      rw [if_pos (by omega)] at eca
      refine lv_iload_n hx hb dX2_run_51 rfl (lv_at hl 4 rfl) ?_
      refine j_rd (va_runSN (As := [.int (iI ((itn f q i)))]) (rest := [.int (iI (ca)), .int (iI (mo9)), .ref h0]) ⟨hx, hb, hml, hown, hts⟩ (c_X10_cellOf l D cI cZ z ((itn f q i)) (by first | assumption | omega) H.size) ⟨va_cnB 1 hts gX2_run_X10_cellOf_n40 rfl rfl rfl (hZ.2.2.2.2.2 _ (List.mem_of_getElem? (i := 18) rfl)) IRX10 hsX10_cellOf ⟨Nat.le_of_ble_eq_true rfl, Nat.le_of_ble_eq_true rfl⟩, STyX10_cellOf, trivial⟩ (j_preS hP hD hK hS hZ hA [] rfl rfl) rfl rfl hl.1 rfl (lv_room (Nat.le_of_ble_eq_true rfl)) dX2_run_52 ⟨Nat.zero_le _, Nat.zero_le _⟩) ?_
      refine j_top (fun cb ecb => ?_)
      rw [if_pos (by omega)] at ecb
      obtain ⟨tm, etm⟩ : ∃ t : Int, t = if ¬ ca = cb then 1 else 0 := ⟨_, rfl⟩
      have ktm : W p l e rmX2_run s m args below meth c H locs 0 0 Q (F0 m 63 ls [.int (iI (tm)), .int (iI (mo9)), .ref h0]) := by
        refine j_iadd hx hb dX2_run_63 ?_
        refine va_put (D := D) (ci := 2) (v := .int (iI (mo9 + tm))) (ty := .int) (C := RX2) (T := TX2) (N := 4) hx hb hts UX2 tyX2 tyX2_ok nmX2 hown hK hP hD hS 0 rfl rfl 2 (by decide) L19 (fun _ h9 => h9) rfl rfl rfl rfl (Nat.le_of_ble_eq_true rfl) dX2_run_64 (fun H locs hP hD hS => ?_)
        have hP : va_P D vwCl [(h0, .inr (2, [.ref h1, .int (iI (le9)), .int (iI (mo9 + tm)), .int (iI (ce9 + r_4))])), (h1, .inr (3, [.ref h2, .int (iI (ba2_2)), .int (iI (1))])), (h2, .inl (cI, 256, .inl (aI mk2_3))), (h3, .inr (9, [.ref h4, .int (iI (ln)), .int (iI (wt)), .int (iI (wb))])), (h4, .inl (cI, 2048, .inl (aI a)))] H := hP
        have hD : va_D A [(h0, .inr (2, [.ref h1, .int (iI (le9)), .int (iI (mo9 + tm)), .int (iI (ce9 + r_4))])), (h1, .inr (3, [.ref h2, .int (iI (ba2_2)), .int (iI (1))])), (h2, .inl (cI, 256, .inl (aI mk2_3))), (h3, .inr (9, [.ref h4, .int (iI (ln)), .int (iI (wt)), .int (iI (wb))])), (h4, .inl (cI, 2048, .inl (aI a)))] := hD
        refine lv_aload_n hx hb dX2_run_67 rfl (lv_at hl 1 rfl) ?_
        refine lv_dup hx hb dX2_run_68 rfl ?_
        refine va_get (D := D) (ci := 2) (v := .int (iI (le9))) (C := RX2) (T := TX2) (N := 4) hx hb hts UX2 hown hK hP 0 rfl rfl 1 (by decide) L15 (fun _ h9 => h9) rfl dX2_run_69 ?_
        refine lv_iconst (v := iI (1)) hx hb dX2_run_72 rfl ?_
        refine j_iadd hx hb dX2_run_73 ?_
        refine va_put (D := D) (ci := 2) (v := .int (iI (le9 + 1))) (ty := .int) (C := RX2) (T := TX2) (N := 4) hx hb hts UX2 tyX2 tyX2_ok nmX2 hown hK hP hD hS 0 rfl rfl 1 (by decide) L15 (fun _ h9 => h9) rfl rfl rfl rfl (Nat.le_of_ble_eq_true rfl) dX2_run_74 (fun H locs hP hD hS => ?_)
        have hP : va_P D vwCl [(h0, .inr (2, [.ref h1, .int (iI (le9 + 1)), .int (iI (mo9 + tm)), .int (iI (ce9 + r_4))])), (h1, .inr (3, [.ref h2, .int (iI (ba2_2)), .int (iI (1))])), (h2, .inl (cI, 256, .inl (aI mk2_3))), (h3, .inr (9, [.ref h4, .int (iI (ln)), .int (iI (wt)), .int (iI (wb))])), (h4, .inl (cI, 2048, .inl (aI a)))] H := hP
        have hD : va_D A [(h0, .inr (2, [.ref h1, .int (iI (le9 + 1)), .int (iI (mo9 + tm)), .int (iI (ce9 + r_4))])), (h1, .inr (3, [.ref h2, .int (iI (ba2_2)), .int (iI (1))])), (h2, .inl (cI, 256, .inl (aI mk2_3))), (h3, .inr (9, [.ref h4, .int (iI (ln)), .int (iI (wt)), .int (iI (wb))])), (h4, .inl (cI, 2048, .inl (aI a)))] := hD
        refine lv_iload hx hb dX2_run_77 (lv_at hl 0 rfl) ?_
        refine lv_istore_n (lv' := [(3, .int (iI (itn f q (i + 1)))), (4, .int (iI (itn f q (i + 1)))), (0, .ref h0), (1, .ref h3), (2, .int (iI (q)))]) hx hb dX2_run_79 rfl hl (by decide) rfl (fun ls hl => ?_)
        obtain ⟨hss1, hss2, hss3⟩ := seen_step hi6 hi5 (by omega) eck (by omega) hr1.1 hw_34
        refine lv_iload_n hx hb dX2_run_80 rfl (lv_at hl 0 rfl) ?_
        refine lv_iload_n hx hb dX2_run_81 rfl (lv_at hl 4 rfl) ?_
        refine j_icmp_eq (tgt := 95) hx hb (by omega) dX2_run_82 (by decide) (fun c_82 => ?_) (fun c_82 => ?_)
        · have hie : i + 1 = p9 := Decidable.byContradiction (fun h => hp4 (i + 1) (by omega) (by omega) c_82)
          subst hie
          rw [hQ]; exact jm_vret (mk2_3, ba2_2, le9 + 1, mo9 + tm, ce9 + r_4) hx hb hr hlocks hS hP rfl (by (try dsimp only); exact ⟨hss3, by omega, by rw [mvN, ← hi3]; omega, by rw [hss2, ← hi4]⟩) dX2_run_95
        · have hne : i + 1 ≠ p9 := fun h => c_82 (by rw [h]; exact hp3)
          refine lv_aload_n hx hb dX2_run_85 rfl (lv_at hl 2 rfl) ?_
          refine va_get (D := D) (ci := 2) (v := .int (iI (le9 + 1))) (C := RX2) (T := TX2) (N := 4) hx hb hts UX2 hown hK hP 0 rfl rfl 1 (by decide) L15 (fun _ h9 => h9) rfl dX2_run_86 ?_
          refine lv_sipush (v := iI (18432)) hx hb dX2_run_89 (by decide) ?_
          refine j_icmp_lt (tgt := 14) hx hb (by omega) dX2_run_92 (by decide) (fun c_92 => ?_) (fun c_92 => ?_)
          · exact ih_14 ((le9 + 1)) ((itn f q (i + 1))) ((mo9 + tm)) ((ce9 + r_4)) mk2_3 (i + 1) (by exact ⟨by omega, by omega, rfl, by rw [mvN, ← hi3]; omega, by rw [hss2, ← hi4], hss3, hss1⟩) (by omega) H locs hP hD hS ls (lv_sub hl [2, 3, 4, 0] rfl)
          · exact False.elim (by omega)
      refine j_icmp_ne (tgt := 62) hx hb (by omega) dX2_run_55 (by decide) (fun q_5 => ?_) (fun q_5 => ?_)
      · refine lv_iconst (v := iI (1)) hx hb dX2_run_62 rfl ?_
        (have q9 := ktm; rw [etm, if_pos q_5] at q9; exact q9)
      · refine lv_iconst (v := iI (0)) hx hb dX2_run_58 rfl ?_
        refine lv_goto (tgt := 63) hx hb dX2_run_59 (by decide) ?_
        (have q9 := ktm; rw [etm, if_neg (fun q => q q_5)] at q9; exact q9)
  exact loop_14 _ 0 q 0 0 mk2_1 0 (by exact ⟨by omega, rfl, rfl, rfl, rfl, hn1, seen_0 hn2⟩) (Nat.lt_succ_self _) H locs hP hD hS ls (lv_sub hl [1, 2, 3, 0] rfl)
