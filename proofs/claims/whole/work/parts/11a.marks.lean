abbrev rmX3_renew : Room := { frames := 0, cells := 0, slots := 0, locals := 0 }
set_option maxHeartbeats 4000000 in
set_option maxRecDepth 100000 in
theorem c_X3_renew (l : Launch) (D : va_G) (cI cZ : ClassId) (z : jZT) (h0 h1 : Nat) (most ba to : Int) (mk : Int → Int) (n : Nat) (hn : n ≤ 20000) (hM : MkI ((n : Nat) : Int) mk ba to) (hmo : 0 ≤ most ∧ most ≤ 20000) : jMu (S := (Int → Int) × Int) l yX3_renew wsX3_renew rmX3_renew [.ref h0, .int (iI (most))] D cI cZ z [(h0, .inr (3, [.ref h1, .int (iI (ba)), .int (iI (to))])), (h1, .inl (cI, n, .inl (aI mk)))] (fun u => none) (fun u => MkI ((n : Nat) : Int) u.1 u.2 most ∧ ∀ j : Int, 0 ≤ j → j < ((n : Nat) : Int) → u.1 j ≤ u.2) (fun u => [(h0, .inr (3, [.ref h1, .int (iI (u.2)), .int (iI (most))])), (h1, .inl (cI, n, .inl (aI u.1)))]) := by
  refine jMu_of (cc := cX3_renew) (n := 3) (ret := none) (by decide) rfl (Nat.le_of_ble_eq_true rfl) ?_
  intro p e s m below meth c A ls args Q hQ F hA hZ hP hK hD hS hl
  obtain ⟨hx, hb, hr, hml, hown, hts, hlocks⟩ := F
  have hown : s.vm.findClass RX3 = some m.cls := hown
  have hl : lv_has ls 3 [(0, .ref h0), (1, .int (iI (most)))] := hl
  have L13 := hts (.fieldLink RX3 13 "TinMouse$Marks" "base" "I") (by decide +kernel)
  have L17 := hts (.fieldLink RX3 17 "TinMouse$Marks" "top" "I") (by decide +kernel)
  have C20 := hts (.constant RX3 20 (2000000000)) (by decide +kernel)
  have L7 := hts (.fieldLink RX3 7 "TinMouse$Marks" "marks" "[I") (by decide +kernel)
  have UX3 : ∀ w ∈ wsX30, w ∈ wsX3_renew := fun w h => List.mem_cons_of_mem _ (List.mem_append_right _ h)
  refine lv_aload_n hx hb dX3_renew_0 rfl (lv_at hl 0 rfl) ?_
  refine lv_dup hx hb dX3_renew_1 rfl ?_
  refine va_get (D := D) (ci := 3) (v := .int (iI (ba))) (C := RX3) (T := TX3) (N := 3) hx hb hts UX3 hown hK hP 0 rfl rfl 1 (by decide) L13 (fun _ h9 => h9) rfl dX3_renew_2 ?_
  refine lv_aload_n hx hb dX3_renew_5 rfl (lv_at hl 0 rfl) ?_
  refine va_get (D := D) (ci := 3) (v := .int (iI (to))) (C := RX3) (T := TX3) (N := 3) hx hb hts UX3 hown hK hP 0 rfl rfl 2 (by decide) L17 (fun _ h9 => h9) rfl dX3_renew_6 ?_
  refine j_iadd hx hb dX3_renew_9 ?_
  refine va_put (D := D) (ci := 3) (v := .int (iI (ba + to))) (ty := .int) (C := RX3) (T := TX3) (N := 3) hx hb hts UX3 tyX3 tyX3_ok nmX3 hown hK hP hD hS 0 rfl rfl 1 (by decide) L13 (fun _ h9 => h9) rfl rfl rfl rfl (Nat.le_of_ble_eq_true rfl) dX3_renew_10 (fun H locs hP hD hS => ?_)
  have hP : va_P D vwCl [(h0, .inr (3, [.ref h1, .int (iI (ba + to)), .int (iI (to))])), (h1, .inl (cI, n, .inl (aI mk)))] H := hP
  have hD : va_D A [(h0, .inr (3, [.ref h1, .int (iI (ba + to)), .int (iI (to))])), (h1, .inl (cI, n, .inl (aI mk)))] := hD
  refine lv_aload_n hx hb dX3_renew_13 rfl (lv_at hl 0 rfl) ?_
  refine lv_iload_n hx hb dX3_renew_14 rfl (lv_at hl 1 rfl) ?_
  refine va_put (D := D) (ci := 3) (v := .int (iI (most))) (ty := .int) (C := RX3) (T := TX3) (N := 3) hx hb hts UX3 tyX3 tyX3_ok nmX3 hown hK hP hD hS 0 rfl rfl 2 (by decide) L17 (fun _ h9 => h9) rfl rfl rfl rfl (Nat.le_of_ble_eq_true rfl) dX3_renew_15 (fun H locs hP hD hS => ?_)
  have hP : va_P D vwCl [(h0, .inr (3, [.ref h1, .int (iI (ba + to)), .int (iI (most))])), (h1, .inl (cI, n, .inl (aI mk)))] H := hP
  have hD : va_D A [(h0, .inr (3, [.ref h1, .int (iI (ba + to)), .int (iI (most))])), (h1, .inl (cI, n, .inl (aI mk)))] := hD
  refine lv_aload_n hx hb dX3_renew_18 rfl (lv_at hl 0 rfl) ?_
  refine va_get (D := D) (ci := 3) (v := .int (iI (ba + to))) (C := RX3) (T := TX3) (N := 3) hx hb hts UX3 hown hK hP 0 rfl rfl 1 (by decide) L13 (fun _ h9 => h9) rfl dX3_renew_19 ?_
  refine lv_ldc (v := iI (2000000000)) hx hb hown C20 dX3_renew_22 ?_
  refine j_icmp_le (tgt := 56) hx hb (by omega) dX3_renew_24 (by decide) (fun c_24 => ?_) (fun c_24 => ?_)
  · rw [hQ]; exact jm_vret (mk, ba + to) hx hb hr hlocks hS hP rfl (by (try dsimp only); first | (refine ⟨⟨by omega, by omega, fun j h1 h2 => ?_⟩, fun j h1 h2 => ?_⟩ <;> (have q := hM.2.2 j h1 h2; omega)) | (refine ⟨⟨by omega, by omega, fun j h1 h2 => ?_⟩, fun j h1 h2 => ?_⟩ <;> (have q := hi3 j h1 (by omega); omega))) dX3_renew_56
  · refine lv_aload_n hx hb dX3_renew_27 rfl (lv_at hl 0 rfl) ?_
    refine lv_iconst (v := iI (0)) hx hb dX3_renew_28 rfl ?_
    refine va_put (D := D) (ci := 3) (v := .int (iI (0))) (ty := .int) (C := RX3) (T := TX3) (N := 3) hx hb hts UX3 tyX3 tyX3_ok nmX3 hown hK hP hD hS 0 rfl rfl 1 (by decide) L13 (fun _ h9 => h9) rfl rfl rfl rfl (Nat.le_of_ble_eq_true rfl) dX3_renew_29 (fun H locs hP hD hS => ?_)
    have hP : va_P D vwCl [(h0, .inr (3, [.ref h1, .int (iI (0)), .int (iI (most))])), (h1, .inl (cI, n, .inl (aI mk)))] H := hP
    have hD : va_D A [(h0, .inr (3, [.ref h1, .int (iI (0)), .int (iI (most))])), (h1, .inl (cI, n, .inl (aI mk)))] := hD
    refine lv_iconst (v := iI (0)) hx hb dX3_renew_32 rfl ?_
    refine lv_istore_n (lv' := [(2, .int (iI (0))), (0, .ref h0), (1, .int (iI (most)))]) hx hb dX3_renew_33 rfl hl (by decide) rfl (fun ls hl => ?_)
    have loop_34 : ∀ (fuel_34 : Nat) (i : Int) (mk9 : Int → Int), (0 ≤ i ∧ i ≤ ((n : Nat) : Int) ∧ (∀ j : Int, 0 ≤ j → j < i → mk9 j = 0) ∧ ∀ j : Int, i ≤ j → j < ((n : Nat) : Int) → 0 ≤ mk9 j) → (((n : Nat) : Int) - i).toNat < fuel_34 → ∀ (H : Heap) (locs : List Loc), va_P D vwCl [(h0, .inr (3, [.ref h1, .int (iI (0)), .int (iI (most))])), (h1, .inl (cI, n, .inl (aI mk9)))] H → va_D A [(h0, .inr (3, [.ref h1, .int (iI (0)), .int (iI (most))])), (h1, .inl (cI, n, .inl (aI mk9)))] → va_S A s.heap H locs → ∀ ls : Array Slot, lv_has ls 3 [(0, .ref h0), (2, .int (iI (i)))] → W p l e rmX3_renew s m args below meth c H locs 0 0 Q (F0 m 34 ls []) := by
      intro fuel_34
      induction fuel_34 with
      | zero => intro i mk9 hI9 hm9; exact absurd hm9 (Nat.not_lt_zero _)
      | succ fuel_34 ih_34 =>
        intro i mk9 hI_34 hm_34 H locs hP hD hS ls hl
        obtain ⟨hi1, hi2, hi3, hi4⟩ := hI_34
        refine lv_iload_n hx hb dX3_renew_34 rfl (lv_at hl 1 rfl) ?_
        refine lv_aload_n hx hb dX3_renew_35 rfl (lv_at hl 0 rfl) ?_
        refine va_get (D := D) (ci := 3) (v := .ref h1) (C := RX3) (T := TX3) (N := 3) hx hb hts UX3 hown hK hP 0 rfl rfl 0 (by decide) L7 (fun _ h9 => h9) rfl dX3_renew_36 ?_
        refine j_alen hx hb hK hP 1 0 rfl rfl dX3_renew_39 ?_
        refine j_icmp_ge (tgt := 56) hx hb (by omega) dX3_renew_40 (by decide) (fun c_40 => ?_) (fun c_40 => ?_)
        · rw [hQ]; exact jm_vret (mk9, 0) hx hb hr hlocks hS hP rfl (by (try dsimp only); first | (refine ⟨⟨by omega, by omega, fun j h1 h2 => ?_⟩, fun j h1 h2 => ?_⟩ <;> (have q := hM.2.2 j h1 h2; omega)) | (refine ⟨⟨by omega, by omega, fun j h1 h2 => ?_⟩, fun j h1 h2 => ?_⟩ <;> (have q := hi3 j h1 (by omega); omega))) dX3_renew_56
        · refine lv_aload_n hx hb dX3_renew_43 rfl (lv_at hl 0 rfl) ?_
          refine va_get (D := D) (ci := 3) (v := .ref h1) (C := RX3) (T := TX3) (N := 3) hx hb hts UX3 hown hK hP 0 rfl rfl 0 (by decide) L7 (fun _ h9 => h9) rfl dX3_renew_44 ?_
          refine lv_iload_n hx hb dX3_renew_47 rfl (lv_at hl 1 rfl) ?_
          refine lv_iconst (v := iI (0)) hx hb dX3_renew_48 rfl ?_
          refine j_iast hx hb hK hP hD hS 1 0 rfl rfl (by omega) dX3_renew_49 (fun H locs hP hD hS => ?_)
          have hP : va_P D vwCl [(h0, .inr (3, [.ref h1, .int (iI (0)), .int (iI (most))])), (h1, .inl (cI, n, .inl (aI (upZ mk9 i 0))))] H := hP
          have hD : va_D A [(h0, .inr (3, [.ref h1, .int (iI (0)), .int (iI (most))])), (h1, .inl (cI, n, .inl (aI (upZ mk9 i 0))))] := hD
          refine lv_iinc (v := iI (i + 1)) (lv' := [(2, .int (iI (i + 1))), (0, .ref h0)]) hx hb dX3_renew_50 hl (k := 1) rfl (iI_add _ _) (by decide) rfl (fun ls hl => ?_)
          refine lv_goto (tgt := 34) hx hb dX3_renew_53 (by decide) ?_
          exact ih_34 ((i + 1)) ((upZ mk9 i 0)) (by exact ⟨by omega, by omega, fun j h1 h2 => by by_cases hj : j = i <;> first | (rw [hj, upZ_s]; done) | (rw [upZ_n hj]; exact hi3 j h1 (by omega)), fun j h1 h2 => by rw [upZ_n (by omega)]; exact hi4 j (by omega) h2⟩) (by omega) H locs hP hD hS ls (lv_sub hl [1, 0] rfl)
    exact loop_34 _ 0 mk (by refine ⟨by omega, by omega, fun j h1 h2 => by omega, fun j h1 h2 => (hM.2.2 j h1 h2).1⟩) (Nat.lt_succ_self _) H locs hP hD hS ls (lv_sub hl [1, 0] rfl)
abbrev rmX3_get : Room := { frames := 1, cells := 0, slots := 0, locals := 24 }
set_option maxHeartbeats 4000000 in
set_option maxRecDepth 100000 in
theorem c_X3_get (l : Launch) (D : va_G) (cI cZ : ClassId) (z : jZT) (h0 h1 : Nat) (i ba to : Int) (mk : Int → Int) (n : Nat) (hn : n ≤ 20000) (hM : MkI ((n : Nat) : Int) mk ba to) (hi : 0 ≤ i ∧ i < ((n : Nat) : Int)) : jRd l yX3_get wsX3_get rmX3_get [.ref h0, .int (iI (i))] D cI cZ z [(h0, .inr (3, [.ref h1, .int (iI (ba)), .int (iI (to))])), (h1, .inl (cI, n, .inl (aI mk)))] (some (.int (iI (gtI mk ba i)))) := by
  refine jRd_of (cc := cX3_get) (n := 2) (ret := (some .int)) (by decide) rfl (Nat.le_of_ble_eq_true rfl) ?_
  intro p e s m below meth c A ls args Q hQ F hA hZ hP hK hD hS hl
  obtain ⟨hx, hb, hr, hml, hown, hts, hlocks⟩ := F
  have hown : s.vm.findClass RX3 = some m.cls := hown
  have hl : lv_has ls 2 [(0, .ref h0), (1, .int (iI (i)))] := hl
  have L7 := hts (.fieldLink RX3 7 "TinMouse$Marks" "marks" "[I") (by decide +kernel)
  have IRX10 := hts (.initialized RX10) (by decide +kernel)
  have STyX10_at := hts (.static yX10_at) (by decide +kernel)
  have L13 := hts (.fieldLink RX3 13 "TinMouse$Marks" "base" "I") (by decide +kernel)
  have LM27_1 := hts (.methodLink RX3 27 Lib.Math.max.name) (by decide +kernel)
  have LM27_2 := hts (.static Lib.Math.max.name) (by decide +kernel)
  have LM27_3 := hts (.initialized "java/lang/Math") (by decide +kernel)
  have LM27_4 := hts (.code Lib.Math.max.name Lib.Math.max.code 2 (some .int)) (by decide +kernel)
  have UX3 : ∀ w ∈ wsX30, w ∈ wsX3_get := fun w h => List.mem_cons_of_mem _ (List.mem_append_right _ h)
  have hmi := hM.2.2 i hi.1 hi.2
  have hat : atI ((n : Nat) : Int) mk i = mk i := atI_in hi
  refine lv_iconst (v := iI (0)) hx hb dX3_get_0 rfl ?_
  refine lv_aload_n hx hb dX3_get_1 rfl (lv_at hl 0 rfl) ?_
  refine va_get (D := D) (ci := 3) (v := .ref h1) (C := RX3) (T := TX3) (N := 3) hx hb hts UX3 hown hK hP 0 rfl rfl 0 (by decide) L7 (fun _ h9 => h9) rfl dX3_get_2 ?_
  refine lv_iload_n hx hb dX3_get_5 rfl (lv_at hl 1 rfl) ?_
  refine j_rd (va_runSN (As := [.ref h1, .int (iI (i))]) (rest := [.int (iI (0))]) ⟨hx, hb, hml, hown, hts⟩ (c_X10_at l D cI cZ z h1 i mk n (by first | assumption | omega) (by first | assumption | omega) s.heap.size) ⟨va_cnB 2 hts gX3_get_X10_at_n21 rfl rfl rfl (hZ.2.2.2.2.2 _ (List.mem_of_getElem? (i := 13) rfl)) IRX10 hsX10_at ⟨Nat.le_of_ble_eq_true rfl, Nat.le_of_ble_eq_true rfl⟩, STyX10_at, trivial⟩ (j_preS hP hD hK hS hZ hA [1] rfl rfl) rfl rfl hl.1 rfl (lv_room (Nat.le_of_ble_eq_true rfl)) dX3_get_6 ⟨Nat.zero_le _, Nat.zero_le _⟩) ?_
  refine lv_aload_n hx hb dX3_get_9 rfl (lv_at hl 0 rfl) ?_
  refine va_get (D := D) (ci := 3) (v := .int (iI (ba))) (C := RX3) (T := TX3) (N := 3) hx hb hts UX3 hown hK hP 0 rfl rfl 1 (by decide) L13 (fun _ h9 => h9) rfl dX3_get_10 ?_
  refine j_isub hx hb dX3_get_13 ?_
  refine j_mmax hx hb (hml.trans hl.1.symm) hown LM27_1 LM27_2 LM27_3 LM27_4 (Nat.le_of_ble_eq_true rfl) (Nat.le_of_ble_eq_true rfl) (Nat.zero_le _) (Nat.zero_le _) (by omega) dX3_get_14 ?_
  rw [hQ]; exact jr_iret hx hb hr hlocks (jo_i (by unfold gtI; rw [hat])) dX3_get_17
theorem hsX10_set : yX10_set.cls ≠ "java/lang/invoke/MethodHandle" ∧ yX10_set.cls ≠ "java/lang/invoke/VarHandle" ∧ (parseMethodDescriptor yX10_set.desc).map (fun d => d.parameters.length) = some 3 := by decide +kernel
theorem hvX10_set : yX10_set.cls = RX10 ∧ yX10_set.cls ≠ "java/lang/invoke/MethodHandle" ∧ yX10_set.cls ≠ "java/lang/invoke/VarHandle" ∧ (parseMethodDescriptor yX10_set.desc).map (fun d => d.parameters.length) = some 3 := ⟨rfl, hsX10_set⟩
abbrev rmX3_set : Room := { frames := 1, cells := 0, slots := 0, locals := 22 }
set_option maxHeartbeats 4000000 in
set_option maxRecDepth 100000 in
theorem c_X3_set (l : Launch) (D : va_G) (cI cZ : ClassId) (z : jZT) (h0 h1 : Nat) (i v ba to : Int) (mk : Int → Int) (n : Nat) (hn : n ≤ 20000) (hi : 0 ≤ i ∧ i < ((n : Nat) : Int)) : jMu (S := (Int → Int)) l yX3_set wsX3_set rmX3_set [.ref h0, .int (iI (i)), .int (iI (v))] D cI cZ z [(h0, .inr (3, [.ref h1, .int (iI (ba)), .int (iI (to))])), (h1, .inl (cI, n, .inl (aI mk)))] (fun u => none) (fun u => u = upZ mk i (ba + v)) (fun u => [(h0, .inr (3, [.ref h1, .int (iI (ba)), .int (iI (to))])), (h1, .inl (cI, n, .inl (aI u)))]) := by
  refine jMu_of (cc := cX3_set) (n := 3) (ret := none) (by decide) rfl (Nat.le_of_ble_eq_true rfl) ?_
  intro p e s m below meth c A ls args Q hQ F hA hZ hP hK hD hS hl
  obtain ⟨hx, hb, hr, hml, hown, hts, hlocks⟩ := F
  have hown : s.vm.findClass RX3 = some m.cls := hown
  have hl : lv_has ls 3 [(0, .ref h0), (1, .int (iI (i))), (2, .int (iI (v)))] := hl
  have L7 := hts (.fieldLink RX3 7 "TinMouse$Marks" "marks" "[I") (by decide +kernel)
  have L13 := hts (.fieldLink RX3 13 "TinMouse$Marks" "base" "I") (by decide +kernel)
  have IRX10 := hts (.initialized RX10) (by decide +kernel)
  have STyX10_set := hts (.static yX10_set) (by decide +kernel)
  have UX3 : ∀ w ∈ wsX30, w ∈ wsX3_set := fun w h => List.mem_cons_of_mem _ (List.mem_append_right _ h)
  refine lv_aload_n hx hb dX3_set_0 rfl (lv_at hl 0 rfl) ?_
  refine va_get (D := D) (ci := 3) (v := .ref h1) (C := RX3) (T := TX3) (N := 3) hx hb hts UX3 hown hK hP 0 rfl rfl 0 (by decide) L7 (fun _ h9 => h9) rfl dX3_set_1 ?_
  refine lv_iload_n hx hb dX3_set_4 rfl (lv_at hl 1 rfl) ?_
  refine lv_aload_n hx hb dX3_set_5 rfl (lv_at hl 0 rfl) ?_
  refine va_get (D := D) (ci := 3) (v := .int (iI (ba))) (C := RX3) (T := TX3) (N := 3) hx hb hts UX3 hown hK hP 0 rfl rfl 1 (by decide) L13 (fun _ h9 => h9) rfl dX3_set_6 ?_
  refine lv_iload_n hx hb dX3_set_9 rfl (lv_at hl 2 rfl) ?_
  refine j_iadd hx hb dX3_set_10 ?_
  refine j_muv (va_runSN (As := [.ref h1, .int (iI (i)), .int (iI (ba + v))]) (rest := []) ⟨hx, hb, hml, hown, hts⟩ (c_X10_set l D cI cZ z h1 i (ba + v) mk n (by first | assumption | omega) (by first | assumption | omega) s.heap.size) ⟨va_cnB 3 hts gX3_set_X10_set_n33 rfl rfl rfl (hZ.2.2.2.2.2 _ (List.mem_of_getElem? (i := 14) rfl)) IRX10 hsX10_set ⟨Nat.le_of_ble_eq_true rfl, Nat.le_of_ble_eq_true rfl⟩, STyX10_set, trivial⟩ (j_preS hP hD hK hS hZ hA [1] rfl rfl) rfl rfl hl.1 rfl (lv_room (Nat.le_of_ble_eq_true rfl)) dX3_set_11 ⟨Nat.zero_le _, Nat.zero_le _⟩) hP hD hS hA [1] rfl (fun _ => rfl) (fun g2_1 H locs hw_11 hP hD hS => ?_)
  have hP : va_P D vwCl [(h0, .inr (3, [.ref h1, .int (iI (ba)), .int (iI (to))])), (h1, .inl (cI, n, .inl (aI g2_1)))] H := hP
  have hD : va_D A [(h0, .inr (3, [.ref h1, .int (iI (ba)), .int (iI (to))])), (h1, .inl (cI, n, .inl (aI g2_1)))] := hD
  rw [hQ]; exact jm_vret g2_1 hx hb hr hlocks hS hP rfl (by (try dsimp only); exact hw_11.trans (setI_in hi)) dX3_set_14
abbrev rmX3_add : Room := { frames := 0, cells := 0, slots := 0, locals := 0 }
set_option maxHeartbeats 4000000 in
set_option maxRecDepth 100000 in
theorem c_X3_add (l : Launch) (D : va_G) (cI cZ : ClassId) (z : jZT) (h0 h1 : Nat) (i ba to : Int) (mk : Int → Int) (n : Nat) (hn : n ≤ 20000) (hM : MkI ((n : Nat) : Int) mk ba to) (hi : 0 ≤ i ∧ i < ((n : Nat) : Int)) : jMu (S := (Int → Int) × Int) l yX3_add wsX3_add rmX3_add [.ref h0, .int (iI (i))] D cI cZ z [(h0, .inr (3, [.ref h1, .int (iI (ba)), .int (iI (to))])), (h1, .inl (cI, n, .inl (aI mk)))] (fun u => some (.int (iI (u.2)))) (fun u => (mk i ≤ ba ∧ u.1 = upZ mk i (ba + 1) ∧ u.2 = 1) ∨ (ba < mk i ∧ u.1 = mk ∧ u.2 = 0)) (fun u => [(h0, .inr (3, [.ref h1, .int (iI (ba)), .int (iI (to))])), (h1, .inl (cI, n, .inl (aI u.1)))]) := by
  refine jMu_of (cc := cX3_add) (n := 2) (ret := (some .int)) (by decide) rfl (Nat.le_of_ble_eq_true rfl) ?_
  intro p e s m below meth c A ls args Q hQ F hA hZ hP hK hD hS hl
  obtain ⟨hx, hb, hr, hml, hown, hts, hlocks⟩ := F
  have hown : s.vm.findClass RX3 = some m.cls := hown
  have hl : lv_has ls 2 [(0, .ref h0), (1, .int (iI (i)))] := hl
  have L7 := hts (.fieldLink RX3 7 "TinMouse$Marks" "marks" "[I") (by decide +kernel)
  have L13 := hts (.fieldLink RX3 13 "TinMouse$Marks" "base" "I") (by decide +kernel)
  have UX3 : ∀ w ∈ wsX30, w ∈ wsX3_add := fun w h => List.mem_cons_of_mem _ (List.mem_append_right _ h)
  have hmi := hM.2.2 i hi.1 hi.2
  refine lv_iload_n hx hb dX3_add_0 rfl (lv_at hl 1 rfl) ?_
  refine j_if_lt (tgt := 26) hx hb (by omega) dX3_add_1 (by decide) (fun c_1 => ?_) (fun c_1 => ?_)
  · exact False.elim (by omega)
  · refine lv_iload_n hx hb dX3_add_4 rfl (lv_at hl 1 rfl) ?_
    refine lv_aload_n hx hb dX3_add_5 rfl (lv_at hl 0 rfl) ?_
    refine va_get (D := D) (ci := 3) (v := .ref h1) (C := RX3) (T := TX3) (N := 3) hx hb hts UX3 hown hK hP 0 rfl rfl 0 (by decide) L7 (fun _ h9 => h9) rfl dX3_add_6 ?_
    refine j_alen hx hb hK hP 1 0 rfl rfl dX3_add_9 ?_
    refine j_icmp_ge (tgt := 26) hx hb (by omega) dX3_add_10 (by decide) (fun c_10 => ?_) (fun c_10 => ?_)
    · exact False.elim (by omega)
    · refine lv_aload_n hx hb dX3_add_13 rfl (lv_at hl 0 rfl) ?_
      refine va_get (D := D) (ci := 3) (v := .ref h1) (C := RX3) (T := TX3) (N := 3) hx hb hts UX3 hown hK hP 0 rfl rfl 0 (by decide) L7 (fun _ h9 => h9) rfl dX3_add_14 ?_
      refine lv_iload_n hx hb dX3_add_17 rfl (lv_at hl 1 rfl) ?_
      refine j_iald hx hb hK hP 1 0 rfl rfl (by omega) dX3_add_18 ?_
      refine lv_aload_n hx hb dX3_add_19 rfl (lv_at hl 0 rfl) ?_
      refine va_get (D := D) (ci := 3) (v := .int (iI (ba))) (C := RX3) (T := TX3) (N := 3) hx hb hts UX3 hown hK hP 0 rfl rfl 1 (by decide) L13 (fun _ h9 => h9) rfl dX3_add_20 ?_
      refine j_icmp_le (tgt := 28) hx hb (by omega) dX3_add_23 (by decide) (fun c_23 => ?_) (fun c_23 => ?_)
      · refine lv_aload_n hx hb dX3_add_28 rfl (lv_at hl 0 rfl) ?_
        refine va_get (D := D) (ci := 3) (v := .ref h1) (C := RX3) (T := TX3) (N := 3) hx hb hts UX3 hown hK hP 0 rfl rfl 0 (by decide) L7 (fun _ h9 => h9) rfl dX3_add_29 ?_
        refine lv_iload_n hx hb dX3_add_32 rfl (lv_at hl 1 rfl) ?_
        refine lv_aload_n hx hb dX3_add_33 rfl (lv_at hl 0 rfl) ?_
        refine va_get (D := D) (ci := 3) (v := .int (iI (ba))) (C := RX3) (T := TX3) (N := 3) hx hb hts UX3 hown hK hP 0 rfl rfl 1 (by decide) L13 (fun _ h9 => h9) rfl dX3_add_34 ?_
        refine lv_iconst (v := iI (1)) hx hb dX3_add_37 rfl ?_
        refine j_iadd hx hb dX3_add_38 ?_
        refine j_iast hx hb hK hP hD hS 1 0 rfl rfl (by omega) dX3_add_39 (fun H locs hP hD hS => ?_)
        have hP : va_P D vwCl [(h0, .inr (3, [.ref h1, .int (iI (ba)), .int (iI (to))])), (h1, .inl (cI, n, .inl (aI (upZ mk i (ba + 1)))))] H := hP
        have hD : va_D A [(h0, .inr (3, [.ref h1, .int (iI (ba)), .int (iI (to))])), (h1, .inl (cI, n, .inl (aI (upZ mk i (ba + 1)))))] := hD
        refine lv_iconst (v := iI (1)) hx hb dX3_add_40 rfl ?_
        rw [hQ]; exact jm_iret (upZ mk i (ba + 1), 1) hx hb hr hlocks hS hP rfl (by (try dsimp only); first | exact Or.inl ⟨by omega, rfl, rfl⟩ | exact Or.inr ⟨by omega, rfl, rfl⟩) dX3_add_41
      · refine lv_iconst (v := iI (0)) hx hb dX3_add_26 rfl ?_
        rw [hQ]; exact jm_iret (mk, 0) hx hb hr hlocks hS hP rfl (by (try dsimp only); first | exact Or.inl ⟨by omega, rfl, rfl⟩ | exact Or.inr ⟨by omega, rfl, rfl⟩) dX3_add_27
