theorem hsJ0_length_8abf5 : yJ0_length_8abf5.cls ≠ "java/lang/invoke/MethodHandle" ∧ yJ0_length_8abf5.cls ≠ "java/lang/invoke/VarHandle" ∧ (parseMethodDescriptor yJ0_length_8abf5.desc).map (fun d => d.parameters.length) = some 0 := by decide +kernel
theorem hvJ0_length_8abf5 : yJ0_length_8abf5.cls = RJ0 ∧ yJ0_length_8abf5.cls ≠ "java/lang/invoke/MethodHandle" ∧ yJ0_length_8abf5.cls ≠ "java/lang/invoke/VarHandle" ∧ (parseMethodDescriptor yJ0_length_8abf5.desc).map (fun d => d.parameters.length) = some 0 := ⟨rfl, hsJ0_length_8abf5⟩
theorem hsJ0_charAt_5068e : yJ0_charAt_5068e.cls ≠ "java/lang/invoke/MethodHandle" ∧ yJ0_charAt_5068e.cls ≠ "java/lang/invoke/VarHandle" ∧ (parseMethodDescriptor yJ0_charAt_5068e.desc).map (fun d => d.parameters.length) = some 1 := by decide +kernel
theorem hvJ0_charAt_5068e : yJ0_charAt_5068e.cls = RJ0 ∧ yJ0_charAt_5068e.cls ≠ "java/lang/invoke/MethodHandle" ∧ yJ0_charAt_5068e.cls ≠ "java/lang/invoke/VarHandle" ∧ (parseMethodDescriptor yJ0_charAt_5068e.desc).map (fun d => d.parameters.length) = some 1 := ⟨rfl, hsJ0_charAt_5068e⟩
abbrev rmX8_isWord : Room := { frames := 4, cells := 0, slots := 0, locals := 85 }
set_option maxHeartbeats 4000000 in
set_option maxRecDepth 100000 in
theorem c_X8_isWord (l : Launch) (D : va_G) (cI cZ : ClassId) (z : jZT) (h0 h1 : Nat) (tn pl fi so va : Int) (tb : Int → Int) (j9 : Nat) (hj : j9 < 6) (hTx : TxtI tb tn) (hfp : 0 ≤ fi ∧ fi ≤ pl ∧ pl ≤ tn) : jRd l yX8_isWord wsX8_isWord rmX8_isWord [.ref h0, .ref ((z.2.2.1 j9))] D cI cZ z [(h0, .inr (8, [.ref h1, .int (iI (tn)), .int (iI (pl)), .int (iI (fi)), .int (iI (so)), .int (iI (va))])), (h1, .inl (cI, 300, .inl (aI tb)))] (some (.int (iI (bI (isW tb fi pl j9))))) := by
  refine jRd_of (cc := cX8_isWord) (n := 4) (ret := (some .boolean)) (by decide) rfl (Nat.le_of_ble_eq_true rfl) ?_
  intro p e s m below meth c A ls args Q hQ F hA hZ hP hK hD hS hl
  obtain ⟨hx, hb, hr, hml, hown, hts, hlocks⟩ := F
  have hown : s.vm.findClass RX8 = some m.cls := hown
  have hl : lv_has ls 4 [(0, .ref h0), (1, .ref ((z.2.2.1 j9)))] := hl
  have L23 := hts (.fieldLink RX8 23 "TinMouse$Text" "place" "I") (by decide +kernel)
  have L33 := hts (.fieldLink RX8 33 "TinMouse$Text" "first" "I") (by decide +kernel)
  have L9 := hts (.fieldLink RX8 9 "TinMouse$Text" "bytes" "[I") (by decide +kernel)
  have IRX10 := hts (.initialized RX10) (by decide +kernel)
  have STyX10_at := hts (.static yX10_at) (by decide +kernel)
  have UX8 : ∀ w ∈ wsX80, w ∈ wsX8_isWord := fun w h => List.mem_cons_of_mem _ (List.mem_append_right _ h)
  have hjl := jle_rng j9 hj
  have hje : jle j9 = ((jSl.getD j9 0 : Nat) : Int) := rfl
  refine lv_aload_n hx hb dX8_isWord_0 rfl (lv_at hl 1 rfl) ?_
  refine j_rd (va_runV (As := []) (rest := []) ⟨hx, hb, hml, hown, hts⟩ (c_J0_length_8abf5 l D cI cZ z j9 (by first | assumption | omega) s.heap.size) (cwV 0 hts gX8_isWord_J0_length_8abf5 rfl rfl rfl hvJ0_length_8abf5 ⟨Nat.le_of_ble_eq_true rfl, Nat.le_of_ble_eq_true rfl⟩) ⟨jPre_blind, vk_recv hZ.2.2.2.1.1 (by first | assumption | omega) hS, (j_preS hP hD hK hS hZ hA [] rfl rfl).2⟩ rfl rfl hl.1 rfl (lv_room (Nat.le_of_ble_eq_true rfl)) dX8_isWord_1 ⟨Nat.zero_le _, Nat.zero_le _⟩) ?_
  refine lv_aload_n hx hb dX8_isWord_4 rfl (lv_at hl 0 rfl) ?_
  refine va_get (D := D) (ci := 8) (v := .int (iI (pl))) (C := RX8) (T := TX8) (N := 6) hx hb hts UX8 hown hK hP 0 rfl rfl 2 (by decide) L23 (fun _ h9 => h9) rfl dX8_isWord_5 ?_
  refine lv_aload_n hx hb dX8_isWord_8 rfl (lv_at hl 0 rfl) ?_
  refine va_get (D := D) (ci := 8) (v := .int (iI (fi))) (C := RX8) (T := TX8) (N := 6) hx hb hts UX8 hown hK hP 0 rfl rfl 3 (by decide) L33 (fun _ h9 => h9) rfl dX8_isWord_9 ?_
  refine j_isub hx hb dX8_isWord_12 ?_
  obtain ⟨tm, etm⟩ : ∃ t : Int, t = if ¬ (jle j9) = (pl - fi) then 0 else 1 := ⟨_, rfl⟩
  have ktm : W p l e rmX8_isWord s m args below meth c s.heap [] 0 0 Q (F0 m 21 ls [.int (iI (tm))]) := by
    refine lv_istore_n (lv' := [(2, .int (iI (tm))), (0, .ref h0), (1, .ref ((z.2.2.1 j9)))]) hx hb dX8_isWord_21 rfl hl (by decide) rfl (fun ls hl => ?_)
    refine lv_iconst (v := iI (0)) hx hb dX8_isWord_22 rfl ?_
    refine lv_istore_n (lv' := [(3, .int (iI (0))), (2, .int (iI (tm))), (0, .ref h0), (1, .ref ((z.2.2.1 j9)))]) hx hb dX8_isWord_23 rfl hl (by decide) rfl (fun ls hl => ?_)
    have loop_24 : ∀ (fuel_24 : Nat) (sm : Int) (i : Int) (n : Nat), ((sm = 0 ∨ sm = 1) ∧ i = (n : Int) ∧ n ≤ jSl.getD j9 0 ∧ (sm = 1 → jle j9 = pl - fi ∧ eqW tb fi j9 n = true) ∧ (sm = 0 → isW tb fi pl j9 = false)) → (jSl.getD j9 0 - n) < fuel_24 → ∀ ls : Array Slot, lv_has ls 4 [(0, .ref h0), (1, .ref ((z.2.2.1 j9))), (2, .int (iI (sm))), (3, .int (iI (i)))] → W p l e rmX8_isWord s m args below meth c s.heap [] 0 0 Q (F0 m 24 ls []) := by
      intro fuel_24
      induction fuel_24 with
      | zero => intro sm i n hI9 hm9; exact absurd hm9 (Nat.not_lt_zero _)
      | succ fuel_24 ih_24 =>
        intro sm i n hI_24 hm_24 ls hl
        obtain ⟨hi1, hi2, hi3, hi4, hi5⟩ := hI_24
        refine lv_iload_n hx hb dX8_isWord_24 rfl (lv_at hl 2 rfl) ?_
        refine j_if_eq (tgt := 69) hx hb (by omega) dX8_isWord_25 (by decide) (fun c_25 => ?_) (fun c_25 => ?_)
        · refine lv_iload_n hx hb dX8_isWord_69 rfl (lv_at hl 2 rfl) ?_
          rw [hQ]; exact jr_zret hx hb hr hlocks (by rcases hi1 with h | h <;> rw [h] <;> rfl) (jo_i (by first | (rw [hi5 (by omega), bI_f]; omega) | (have hs2 := hi4 (by omega); unfold isW; rw [decide_eq_true hs2.1, show jSl.getD j9 0 = n by omega, hs2.2]; simp only [bI, Bool.and_self, if_true]; omega))) dX8_isWord_70
        · refine lv_iload_n hx hb dX8_isWord_28 rfl (lv_at hl 3 rfl) ?_
          refine lv_aload_n hx hb dX8_isWord_29 rfl (lv_at hl 1 rfl) ?_
          refine j_rd (va_runV (As := []) (rest := [.int (iI (i))]) ⟨hx, hb, hml, hown, hts⟩ (c_J0_length_8abf5 l D cI cZ z j9 (by first | assumption | omega) s.heap.size) (cwV 0 hts gX8_isWord_J0_length_8abf5 rfl rfl rfl hvJ0_length_8abf5 ⟨Nat.le_of_ble_eq_true rfl, Nat.le_of_ble_eq_true rfl⟩) ⟨jPre_blind, vk_recv hZ.2.2.2.1.1 (by first | assumption | omega) hS, (j_preS hP hD hK hS hZ hA [] rfl rfl).2⟩ rfl rfl hl.1 rfl (lv_room (Nat.le_of_ble_eq_true rfl)) dX8_isWord_30 ⟨Nat.zero_le _, Nat.zero_le _⟩) ?_
          refine j_icmp_ge (tgt := 69) hx hb (by omega) dX8_isWord_33 (by decide) (fun c_33 => ?_) (fun c_33 => ?_)
          · refine lv_iload_n hx hb dX8_isWord_69 rfl (lv_at hl 2 rfl) ?_
            rw [hQ]; exact jr_zret hx hb hr hlocks (by rcases hi1 with h | h <;> rw [h] <;> rfl) (jo_i (by first | (rw [hi5 (by omega), bI_f]; omega) | (have hs2 := hi4 (by omega); unfold isW; rw [decide_eq_true hs2.1, show jSl.getD j9 0 = n by omega, hs2.2]; simp only [bI, Bool.and_self, if_true]; omega))) dX8_isWord_70
          · refine lv_aload_n hx hb dX8_isWord_36 rfl (lv_at hl 1 rfl) ?_
            refine lv_iload_n hx hb dX8_isWord_37 rfl (lv_at hl 3 rfl) ?_
            refine j_rd (va_runV (As := [.int (iI (i))]) (rest := []) ⟨hx, hb, hml, hown, hts⟩ (c_J0_charAt_5068e l D cI cZ z i j9 (by first | assumption | omega) (by first | assumption | omega) s.heap.size) (cwV 1 hts gX8_isWord_J0_charAt_5068e rfl rfl rfl hvJ0_charAt_5068e ⟨Nat.le_of_ble_eq_true rfl, Nat.le_of_ble_eq_true rfl⟩) ⟨jPre_blind, vk_recv hZ.2.2.2.1.1 (by first | assumption | omega) hS, (j_preS hP hD hK hS hZ hA [] rfl rfl).2⟩ rfl rfl hl.1 rfl (lv_room (Nat.le_of_ble_eq_true rfl)) dX8_isWord_38 ⟨Nat.zero_le _, Nat.zero_le _⟩) ?_
            have hcr := jch_rng (j := j9) (i := i) hj (by omega)
            refine lv_aload_n hx hb dX8_isWord_41 rfl (lv_at hl 0 rfl) ?_
            refine va_get (D := D) (ci := 8) (v := .ref h1) (C := RX8) (T := TX8) (N := 6) hx hb hts UX8 hown hK hP 0 rfl rfl 0 (by decide) L9 (fun _ h9 => h9) rfl dX8_isWord_42 ?_
            refine lv_aload_n hx hb dX8_isWord_45 rfl (lv_at hl 0 rfl) ?_
            refine va_get (D := D) (ci := 8) (v := .int (iI (fi))) (C := RX8) (T := TX8) (N := 6) hx hb hts UX8 hown hK hP 0 rfl rfl 3 (by decide) L33 (fun _ h9 => h9) rfl dX8_isWord_46 ?_
            refine lv_iload_n hx hb dX8_isWord_49 rfl (lv_at hl 3 rfl) ?_
            refine j_iadd hx hb dX8_isWord_50 ?_
            refine j_rd (va_runSN (As := [.ref h1, .int (iI (fi + i))]) (rest := [.int (iI (jch j9 i))]) ⟨hx, hb, hml, hown, hts⟩ (c_X10_at l D cI cZ z h1 (fi + i) tb 300 (by first | assumption | omega) (by first | assumption | omega) s.heap.size) ⟨va_cnB 2 hts gX8_isWord_X10_at_n29 rfl rfl rfl (hZ.2.2.2.2.2 _ (List.mem_of_getElem? (i := 7) rfl)) IRX10 hsX10_at ⟨Nat.le_of_ble_eq_true rfl, Nat.le_of_ble_eq_true rfl⟩, STyX10_at, trivial⟩ (j_preS hP hD hK hS hZ hA [1] rfl rfl) rfl rfl hl.1 rfl (lv_room (Nat.le_of_ble_eq_true rfl)) dX8_isWord_51 ⟨Nat.zero_le _, Nat.zero_le _⟩) ?_
            refine j_top (fun bt ebt => ?_)
            rw [atI_in (by omega)] at ebt
            have hbr := hTx.2 (fi + i) (by omega) (by omega)
            obtain ⟨ts, ets⟩ : ∃ t : Int, t = if ¬ (jch j9 i) = bt then 0 else 1 := ⟨_, rfl⟩
            have kts : W p l e rmX8_isWord s m args below meth c s.heap [] 0 0 Q (F0 m 62 ls [.int (iI (ts))]) := by
              refine lv_istore_n (lv' := [(2, .int (iI (ts))), (0, .ref h0), (1, .ref ((z.2.2.1 j9))), (3, .int (iI (i)))]) hx hb dX8_isWord_62 rfl hl (by decide) rfl (fun ls hl => ?_)
              refine lv_iinc (v := iI (i + 1)) (lv' := [(3, .int (iI (i + 1))), (2, .int (iI (ts))), (0, .ref h0), (1, .ref ((z.2.2.1 j9)))]) hx hb dX8_isWord_63 hl (k := 3) rfl (iI_add _ _) (by decide) rfl (fun ls hl => ?_)
              refine lv_goto (tgt := 24) hx hb dX8_isWord_66 (by decide) ?_
              exact ih_24 ts ((i + 1)) (n + 1) (by 
                          have hs1 : sm = 1 := by omega
                          have hs2 := hi4 hs1
                          have hsx : eqW tb fi j9 (n + 1) = decide (jch j9 i = bt) := by rw [eqW, hs2.2, ← hi2, ← ebt]; rfl
                          exact ⟨by omega, by omega, by omega, fun h => ⟨hs2.1, by rw [hsx, decide_eq_true (by omega)]⟩, fun h => by unfold isW; rw [eqW_f (k := n + 1) (by rw [hsx, decide_eq_false (by omega)]) (by omega), Bool.and_false]⟩) (by omega) ls (lv_sub hl [2, 3, 1, 0] rfl)
            refine j_icmp_ne (tgt := 61) hx hb (by omega) dX8_isWord_54 (by decide) (fun q_1 => ?_) (fun q_1 => ?_)
            · refine lv_iconst (v := iI (0)) hx hb dX8_isWord_61 rfl ?_
              (have q9 := kts; rw [ets, if_pos q_1] at q9; exact q9)
            · refine lv_iconst (v := iI (1)) hx hb dX8_isWord_57 rfl ?_
              refine lv_goto (tgt := 62) hx hb dX8_isWord_58 (by decide) ?_
              (have q9 := kts; rw [ets, if_neg (fun q => q q_1)] at q9; exact q9)
    exact loop_24 _ tm 0 0 (by exact ⟨by omega, rfl, by omega, fun h => ⟨by omega, rfl⟩, fun h => by unfold isW; rw [decide_eq_false (by omega)]; rfl⟩) (Nat.lt_succ_self _) ls (lv_sub hl [2, 3, 1, 0] rfl)
  refine j_icmp_ne (tgt := 20) hx hb (by omega) dX8_isWord_13 (by decide) (fun q_2 => ?_) (fun q_2 => ?_)
  · refine lv_iconst (v := iI (0)) hx hb dX8_isWord_20 rfl ?_
    (have q9 := ktm; rw [etm, if_pos q_2] at q9; exact q9)
  · refine lv_iconst (v := iI (1)) hx hb dX8_isWord_16 rfl ?_
    refine lv_goto (tgt := 21) hx hb dX8_isWord_17 (by decide) ?_
    (have q9 := ktm; rw [etm, if_neg (fun q => q q_2)] at q9; exact q9)
theorem hsX8_nameOf : yX8_nameOf.cls ≠ "java/lang/invoke/MethodHandle" ∧ yX8_nameOf.cls ≠ "java/lang/invoke/VarHandle" ∧ (parseMethodDescriptor yX8_nameOf.desc).map (fun d => d.parameters.length) = some 1 := by decide +kernel
theorem hvX8_nameOf : yX8_nameOf.cls = RX8 ∧ yX8_nameOf.cls ≠ "java/lang/invoke/MethodHandle" ∧ yX8_nameOf.cls ≠ "java/lang/invoke/VarHandle" ∧ (parseMethodDescriptor yX8_nameOf.desc).map (fun d => d.parameters.length) = some 1 := ⟨rfl, hsX8_nameOf⟩
theorem hsX8_isWord : yX8_isWord.cls ≠ "java/lang/invoke/MethodHandle" ∧ yX8_isWord.cls ≠ "java/lang/invoke/VarHandle" ∧ (parseMethodDescriptor yX8_isWord.desc).map (fun d => d.parameters.length) = some 1 := by decide +kernel
theorem hvX8_isWord : yX8_isWord.cls = RX8 ∧ yX8_isWord.cls ≠ "java/lang/invoke/MethodHandle" ∧ yX8_isWord.cls ≠ "java/lang/invoke/VarHandle" ∧ (parseMethodDescriptor yX8_isWord.desc).map (fun d => d.parameters.length) = some 1 := ⟨rfl, hsX8_isWord⟩
theorem hsX8_isLetter : yX8_isLetter.cls ≠ "java/lang/invoke/MethodHandle" ∧ yX8_isLetter.cls ≠ "java/lang/invoke/VarHandle" ∧ (parseMethodDescriptor yX8_isLetter.desc).map (fun d => d.parameters.length) = some 1 := by decide +kernel
theorem hvX8_isLetter : yX8_isLetter.cls = RX8 ∧ yX8_isLetter.cls ≠ "java/lang/invoke/MethodHandle" ∧ yX8_isLetter.cls ≠ "java/lang/invoke/VarHandle" ∧ (parseMethodDescriptor yX8_isLetter.desc).map (fun d => d.parameters.length) = some 1 := ⟨rfl, hsX8_isLetter⟩
abbrev rmX8_takeWord : Room := { frames := 5, cells := 0, slots := 0, locals := 108 }
set_option maxHeartbeats 4000000 in
set_option maxRecDepth 100000 in
theorem c_X8_takeWord (l : Launch) (D : va_G) (cI cZ : ClassId) (z : jZT) (h0 h1 : Nat) (tn pl so va : Int) (tb : Int → Int) (hTx : TxtI tb tn) (hpl : 0 ≤ pl ∧ pl ≤ tn) : jMu (S := Int × Int × Int) l yX8_takeWord wsX8_takeWord rmX8_takeWord [.ref h0] D cI cZ z [(h0, .inr (8, [.ref h1, .int (iI (tn)), .int (iI (pl)), .int (iI (pl)), .int (iI (so)), .int (iI (va))])), (h1, .inl (cI, 300, .inl (aI tb)))] (fun u => none) (fun u => u.1 = skL tb tn 300 pl ∧ u.2.1 = (if wdx tb pl (skL tb tn 300 pl) 6 = -9 then 4 else 1) ∧ (wdx tb pl (skL tb tn 300 pl) 6 ≠ -9 → u.2.2 = wdx tb pl (skL tb tn 300 pl) 6)) (fun u => [(h0, .inr (8, [.ref h1, .int (iI (tn)), .int (iI (u.1)), .int (iI (pl)), .int (iI (u.2.1)), .int (iI (u.2.2))])), (h1, .inl (cI, 300, .inl (aI tb)))]) := by
  refine jMu_of (cc := cX8_takeWord) (n := 2) (ret := none) (by decide) rfl (Nat.le_of_ble_eq_true rfl) ?_
  intro p e s m below meth c A ls args Q hQ F hA hZ hP hK hD hS hl
  obtain ⟨hx, hb, hr, hml, hown, hts, hlocks⟩ := F
  have hown : s.vm.findClass RX8 = some m.cls := hown
  have hl : lv_has ls 2 [(0, .ref h0)] := hl
  have L36 := hts (.fieldLink RX8 36 "TinMouse$Text" "sort" "I") (by decide +kernel)
  have L60 := hts (.fieldLink RX8 60 "TinMouse$Text" "value" "I") (by decide +kernel)
  have L23 := hts (.fieldLink RX8 23 "TinMouse$Text" "place" "I") (by decide +kernel)
  have L15 := hts (.fieldLink RX8 15 "TinMouse$Text" "length" "I") (by decide +kernel)
  have L9 := hts (.fieldLink RX8 9 "TinMouse$Text" "bytes" "[I") (by decide +kernel)
  have IRX10 := hts (.initialized RX10) (by decide +kernel)
  have STyX10_at := hts (.static yX10_at) (by decide +kernel)
  have UX8 : ∀ w ∈ wsX80, w ∈ wsX8_takeWord := fun w h => List.mem_cons_of_mem _ (List.mem_append_right _ h)
  have hskr := skL_rng tb tn 300 pl
  have cut_41 : ∀ (pl8 : Int), (pl8 = skL tb tn 300 pl) → ∀ (H : Heap) (locs : List Loc), va_P D vwCl [(h0, .inr (8, [.ref h1, .int (iI (tn)), .int (iI (pl8)), .int (iI (pl)), .int (iI (so)), .int (iI (va))])), (h1, .inl (cI, 300, .inl (aI tb)))] H → va_D A [(h0, .inr (8, [.ref h1, .int (iI (tn)), .int (iI (pl8)), .int (iI (pl)), .int (iI (so)), .int (iI (va))])), (h1, .inl (cI, 300, .inl (aI tb)))] → va_S A s.heap H locs → ∀ ls : Array Slot, lv_has ls 2 [(0, .ref h0)] → W p l e rmX8_takeWord s m args below meth c H locs 0 0 Q (F0 m 41 ls []) := by
    intro pl8 hI_41 H locs hP hD hS ls hl
    refine lv_aload_n hx hb dX8_takeWord_41 rfl (lv_at hl 0 rfl) ?_
    refine lv_iconst (v := iI (4)) hx hb dX8_takeWord_42 rfl ?_
    refine va_put (D := D) (ci := 8) (v := .int (iI (4))) (ty := .int) (C := RX8) (T := TX8) (N := 6) hx hb hts UX8 tyX8 tyX8_ok nmX8 hown hK hP hD hS 0 rfl rfl 4 (by decide) L36 (fun _ h9 => h9) rfl rfl rfl rfl (Nat.le_of_ble_eq_true rfl) dX8_takeWord_43 (fun H locs hP hD hS => ?_)
    have hP : va_P D vwCl [(h0, .inr (8, [.ref h1, .int (iI (tn)), .int (iI (pl8)), .int (iI (pl)), .int (iI (4)), .int (iI (va))])), (h1, .inl (cI, 300, .inl (aI tb)))] H := hP
    have hD : va_D A [(h0, .inr (8, [.ref h1, .int (iI (tn)), .int (iI (pl8)), .int (iI (pl)), .int (iI (4)), .int (iI (va))])), (h1, .inl (cI, 300, .inl (aI tb)))] := hD
    refine lv_iconst (v := iI (0)) hx hb dX8_takeWord_46 rfl ?_
    refine lv_istore_n (lv' := [(1, .int (iI (0))), (0, .ref h0)]) hx hb dX8_takeWord_47 rfl hl (by decide) rfl (fun ls hl => ?_)
    have loop_48 : ∀ (fuel_48 : Nat) (i : Int) (so9 : Int) (va9 : Int) (n : Nat), (i = (n : Int) ∧ n ≤ 6 ∧ so9 = (if wdx tb pl pl8 n = -9 then 4 else 1) ∧ (wdx tb pl pl8 n ≠ -9 → va9 = wdx tb pl pl8 n)) → (6 - n) < fuel_48 → ∀ (H : Heap) (locs : List Loc), va_P D vwCl [(h0, .inr (8, [.ref h1, .int (iI (tn)), .int (iI (pl8)), .int (iI (pl)), .int (iI (so9)), .int (iI (va9))])), (h1, .inl (cI, 300, .inl (aI tb)))] H → va_D A [(h0, .inr (8, [.ref h1, .int (iI (tn)), .int (iI (pl8)), .int (iI (pl)), .int (iI (so9)), .int (iI (va9))])), (h1, .inl (cI, 300, .inl (aI tb)))] → va_S A s.heap H locs → ∀ ls : Array Slot, lv_has ls 2 [(0, .ref h0), (1, .int (iI (i)))] → W p l e rmX8_takeWord s m args below meth c H locs 0 0 Q (F0 m 48 ls []) := by
      intro fuel_48
      induction fuel_48 with
      | zero => intro i so9 va9 n hI9 hm9; exact absurd hm9 (Nat.not_lt_zero _)
      | succ fuel_48 ih_48 =>
        intro i so9 va9 n hI_48 hm_48 H locs hP hD hS ls hl
        obtain ⟨hj1, hj2, hj3, hj4⟩ := hI_48
        refine lv_iload_n hx hb dX8_takeWord_48 rfl (lv_at hl 1 rfl) ?_
        refine lv_bipush (v := iI (6)) hx hb dX8_takeWord_49 (by decide) ?_
        refine j_icmp_ge (tgt := 81) hx hb (by omega) dX8_takeWord_51 (by decide) (fun c_51 => ?_) (fun c_51 => ?_)
        · rw [hQ]; exact jm_vret (pl8, so9, va9) hx hb hr hlocks hS hP rfl (by (try dsimp only); first | (subst hI_41; rw [show n = 6 by omega] at hj3 hj4; exact ⟨rfl, hj3, hj4⟩)) dX8_takeWord_81
        · refine lv_aload_n hx hb dX8_takeWord_54 rfl (lv_at hl 0 rfl) ?_
          refine lv_iload_n hx hb dX8_takeWord_55 rfl (lv_at hl 1 rfl) ?_
          refine j_rd (va_runS (As := [.int (iI (i))]) (rest := [.ref h0]) ⟨hx, hb, hml, hown, hts⟩ (c_X8_nameOf l D cI cZ z i (by first | assumption | omega) H.size) (va_cwS 1 hts gX8_takeWord_X8_nameOf rfl rfl rfl hsX8_nameOf ⟨Nat.le_of_ble_eq_true rfl, Nat.le_of_ble_eq_true rfl⟩) (j_preS hP hD hK hS hZ hA [] rfl rfl) rfl rfl hl.1 rfl (lv_room (Nat.le_of_ble_eq_true rfl)) dX8_takeWord_56 ⟨Nat.zero_le _, Nat.zero_le _⟩) ?_
          refine j_rd (va_runV (As := [.ref ((z.2.2.1 i.toNat))]) (rest := []) ⟨hx, hb, hml, hown, hts⟩ (c_X8_isWord l D cI cZ z h0 h1 tn pl8 pl so9 va9 tb i.toNat (by first | assumption | omega) (by first | assumption | omega) (by first | assumption | omega) H.size) (cwV 1 hts gX8_takeWord_X8_isWord rfl rfl rfl hvX8_isWord ⟨Nat.le_of_ble_eq_true rfl, Nat.le_of_ble_eq_true rfl⟩) (j_preV hP hD hK hS hZ hA [0, 1] rfl rfl 0 rfl rfl) rfl rfl hl.1 rfl (lv_room (Nat.le_of_ble_eq_true rfl)) dX8_takeWord_59 ⟨Nat.zero_le _, Nat.zero_le _⟩) ?_
          refine j_ifeq_b (tgt := 75) hx hb dX8_takeWord_62 (by decide) (fun c_62 => ?_) (fun c_62 => ?_)
          · refine lv_iinc (v := iI (i + 1)) (lv' := [(1, .int (iI (i + 1))), (0, .ref h0)]) hx hb dX8_takeWord_75 hl (k := 1) rfl (iI_add _ _) (by decide) rfl (fun ls hl => ?_)
            refine lv_goto (tgt := 48) hx hb dX8_takeWord_78 (by decide) ?_
            exact ih_48 ((i + 1)) so9 va9 (n + 1) (by have hwn : wdx tb pl pl8 (n + 1) = if isW tb pl pl8 n = true then (n : Int) else wdx tb pl pl8 n := rfl; rw [show i.toNat = n by omega] at c_62; first | (rw [if_pos c_62] at hwn; exact ⟨by omega, by omega, by rw [hwn, if_neg (by omega)], fun _ => by rw [hwn]; omega⟩) | (rw [if_neg (by rw [c_62]; decide)] at hwn; exact ⟨by omega, by omega, by rw [hwn]; exact hj3, by rw [hwn]; exact hj4⟩)) (by omega) H locs hP hD hS ls (lv_sub hl [1, 0] rfl)
          · refine lv_aload_n hx hb dX8_takeWord_65 rfl (lv_at hl 0 rfl) ?_
            refine lv_iconst (v := iI (1)) hx hb dX8_takeWord_66 rfl ?_
            refine va_put (D := D) (ci := 8) (v := .int (iI (1))) (ty := .int) (C := RX8) (T := TX8) (N := 6) hx hb hts UX8 tyX8 tyX8_ok nmX8 hown hK hP hD hS 0 rfl rfl 4 (by decide) L36 (fun _ h9 => h9) rfl rfl rfl rfl (Nat.le_of_ble_eq_true rfl) dX8_takeWord_67 (fun H locs hP hD hS => ?_)
            have hP : va_P D vwCl [(h0, .inr (8, [.ref h1, .int (iI (tn)), .int (iI (pl8)), .int (iI (pl)), .int (iI (1)), .int (iI (va9))])), (h1, .inl (cI, 300, .inl (aI tb)))] H := hP
            have hD : va_D A [(h0, .inr (8, [.ref h1, .int (iI (tn)), .int (iI (pl8)), .int (iI (pl)), .int (iI (1)), .int (iI (va9))])), (h1, .inl (cI, 300, .inl (aI tb)))] := hD
            refine lv_aload_n hx hb dX8_takeWord_70 rfl (lv_at hl 0 rfl) ?_
            refine lv_iload_n hx hb dX8_takeWord_71 rfl (lv_at hl 1 rfl) ?_
            refine va_put (D := D) (ci := 8) (v := .int (iI (i))) (ty := .int) (C := RX8) (T := TX8) (N := 6) hx hb hts UX8 tyX8 tyX8_ok nmX8 hown hK hP hD hS 0 rfl rfl 5 (by decide) L60 (fun _ h9 => h9) rfl rfl rfl rfl (Nat.le_of_ble_eq_true rfl) dX8_takeWord_72 (fun H locs hP hD hS => ?_)
            have hP : va_P D vwCl [(h0, .inr (8, [.ref h1, .int (iI (tn)), .int (iI (pl8)), .int (iI (pl)), .int (iI (1)), .int (iI (i))])), (h1, .inl (cI, 300, .inl (aI tb)))] H := hP
            have hD : va_D A [(h0, .inr (8, [.ref h1, .int (iI (tn)), .int (iI (pl8)), .int (iI (pl)), .int (iI (1)), .int (iI (i))])), (h1, .inl (cI, 300, .inl (aI tb)))] := hD
            refine lv_iinc (v := iI (i + 1)) (lv' := [(1, .int (iI (i + 1))), (0, .ref h0)]) hx hb dX8_takeWord_75 hl (k := 1) rfl (iI_add _ _) (by decide) rfl (fun ls hl => ?_)
            refine lv_goto (tgt := 48) hx hb dX8_takeWord_78 (by decide) ?_
            exact ih_48 ((i + 1)) 1 i (n + 1) (by have hwn : wdx tb pl pl8 (n + 1) = if isW tb pl pl8 n = true then (n : Int) else wdx tb pl pl8 n := rfl; rw [show i.toNat = n by omega] at c_62; first | (rw [if_pos c_62] at hwn; exact ⟨by omega, by omega, by rw [hwn, if_neg (by omega)], fun _ => by rw [hwn]; omega⟩) | (rw [if_neg (by rw [c_62]; decide)] at hwn; exact ⟨by omega, by omega, by rw [hwn]; exact hj3, by rw [hwn]; exact hj4⟩)) (by omega) H locs hP hD hS ls (lv_sub hl [1, 0] rfl)
    exact loop_48 _ 0 4 va 0 (by exact ⟨rfl, by omega, rfl, fun h => absurd rfl h⟩) (Nat.lt_succ_self _) H locs hP hD hS ls (lv_sub hl [1, 0] rfl)
  have loop_0 : ∀ (fuel_0 : Nat) (pl9 : Int) (m9 : Nat), (skL tb tn m9 pl9 = skL tb tn 300 pl ∧ tn - pl9 ≤ (m9 : Int) ∧ pl ≤ pl9 ∧ pl9 ≤ tn) → (tn - pl9).toNat < fuel_0 → ∀ (H : Heap) (locs : List Loc), va_P D vwCl [(h0, .inr (8, [.ref h1, .int (iI (tn)), .int (iI (pl9)), .int (iI (pl)), .int (iI (so)), .int (iI (va))])), (h1, .inl (cI, 300, .inl (aI tb)))] H → va_D A [(h0, .inr (8, [.ref h1, .int (iI (tn)), .int (iI (pl9)), .int (iI (pl)), .int (iI (so)), .int (iI (va))])), (h1, .inl (cI, 300, .inl (aI tb)))] → va_S A s.heap H locs → ∀ ls : Array Slot, lv_has ls 2 [(0, .ref h0)] → W p l e rmX8_takeWord s m args below meth c H locs 0 0 Q (F0 m 0 ls []) := by
    intro fuel_0
    induction fuel_0 with
    | zero => intro pl9 m9 hI9 hm9; exact absurd hm9 (Nat.not_lt_zero _)
    | succ fuel_0 ih_0 =>
      intro pl9 m9 hI_0 hm_0 H locs hP hD hS ls hl
      obtain ⟨hi1, hi2, hi3, hi4⟩ := hI_0
      refine lv_aload_n hx hb dX8_takeWord_0 rfl (lv_at hl 0 rfl) ?_
      refine va_get (D := D) (ci := 8) (v := .int (iI (pl9))) (C := RX8) (T := TX8) (N := 6) hx hb hts UX8 hown hK hP 0 rfl rfl 2 (by decide) L23 (fun _ h9 => h9) rfl dX8_takeWord_1 ?_
      refine lv_aload_n hx hb dX8_takeWord_4 rfl (lv_at hl 0 rfl) ?_
      refine va_get (D := D) (ci := 8) (v := .int (iI (tn))) (C := RX8) (T := TX8) (N := 6) hx hb hts UX8 hown hK hP 0 rfl rfl 1 (by decide) L15 (fun _ h9 => h9) rfl dX8_takeWord_5 ?_
      refine j_icmp_ge (tgt := 41) hx hb (by omega) dX8_takeWord_8 (by decide) (fun c_8 => ?_) (fun c_8 => ?_)
      · exact cut_41 pl9 (by rw [← hi1, skL_e (by simp_all <;> omega)]) H locs hP hD hS ls (lv_sub hl [0] rfl)
      · refine lv_aload_n hx hb dX8_takeWord_11 rfl (lv_at hl 0 rfl) ?_
        have hbr := hTx.2 pl9 (by omega) (by omega)
        refine va_get (D := D) (ci := 8) (v := .ref h1) (C := RX8) (T := TX8) (N := 6) hx hb hts UX8 hown hK hP 0 rfl rfl 0 (by decide) L9 (fun _ h9 => h9) rfl dX8_takeWord_12 ?_
        refine lv_aload_n hx hb dX8_takeWord_15 rfl (lv_at hl 0 rfl) ?_
        refine va_get (D := D) (ci := 8) (v := .int (iI (pl9))) (C := RX8) (T := TX8) (N := 6) hx hb hts UX8 hown hK hP 0 rfl rfl 2 (by decide) L23 (fun _ h9 => h9) rfl dX8_takeWord_16 ?_
        refine j_rd (va_runSN (As := [.ref h1, .int (iI (pl9))]) (rest := []) ⟨hx, hb, hml, hown, hts⟩ (c_X10_at l D cI cZ z h1 pl9 tb 300 (by first | assumption | omega) (by first | assumption | omega) H.size) ⟨va_cnB 2 hts gX8_takeWord_X10_at_n29 rfl rfl rfl (hZ.2.2.2.2.2 _ (List.mem_of_getElem? (i := 7) rfl)) IRX10 hsX10_at ⟨Nat.le_of_ble_eq_true rfl, Nat.le_of_ble_eq_true rfl⟩, STyX10_at, trivial⟩ (j_preS hP hD hK hS hZ hA [1] rfl rfl) rfl rfl hl.1 rfl (lv_room (Nat.le_of_ble_eq_true rfl)) dX8_takeWord_19 ⟨Nat.zero_le _, Nat.zero_le _⟩) ?_
        refine j_top (fun bt ebt => ?_)
        rw [atI_in (by omega)] at ebt
        refine j_rd (va_runS (As := [.int (iI (bt))]) (rest := []) ⟨hx, hb, hml, hown, hts⟩ (c_X8_isLetter l D cI cZ z bt (by first | assumption | omega) H.size) (va_cwS 1 hts gX8_takeWord_X8_isLetter rfl rfl rfl hsX8_isLetter ⟨Nat.le_of_ble_eq_true rfl, Nat.le_of_ble_eq_true rfl⟩) (j_preS hP hD hK hS hZ hA [] rfl rfl) rfl rfl hl.1 rfl (lv_room (Nat.le_of_ble_eq_true rfl)) dX8_takeWord_22 ⟨Nat.zero_le _, Nat.zero_le _⟩) ?_
        refine j_ifeq_b (tgt := 41) hx hb dX8_takeWord_25 (by decide) (fun c_25 => ?_) (fun c_25 => ?_)
        · exact cut_41 pl9 (by rw [← hi1, skL_e (by simp_all <;> omega)]) H locs hP hD hS ls (lv_sub hl [0] rfl)
        · refine lv_aload_n hx hb dX8_takeWord_28 rfl (lv_at hl 0 rfl) ?_
          refine lv_dup hx hb dX8_takeWord_29 rfl ?_
          refine va_get (D := D) (ci := 8) (v := .int (iI (pl9))) (C := RX8) (T := TX8) (N := 6) hx hb hts UX8 hown hK hP 0 rfl rfl 2 (by decide) L23 (fun _ h9 => h9) rfl dX8_takeWord_30 ?_
          refine lv_iconst (v := iI (1)) hx hb dX8_takeWord_33 rfl ?_
          refine j_iadd hx hb dX8_takeWord_34 ?_
          refine va_put (D := D) (ci := 8) (v := .int (iI (pl9 + 1))) (ty := .int) (C := RX8) (T := TX8) (N := 6) hx hb hts UX8 tyX8 tyX8_ok nmX8 hown hK hP hD hS 0 rfl rfl 2 (by decide) L23 (fun _ h9 => h9) rfl rfl rfl rfl (Nat.le_of_ble_eq_true rfl) dX8_takeWord_35 (fun H locs hP hD hS => ?_)
          have hP : va_P D vwCl [(h0, .inr (8, [.ref h1, .int (iI (tn)), .int (iI (pl9 + 1)), .int (iI (pl)), .int (iI (so)), .int (iI (va))])), (h1, .inl (cI, 300, .inl (aI tb)))] H := hP
          have hD : va_D A [(h0, .inr (8, [.ref h1, .int (iI (tn)), .int (iI (pl9 + 1)), .int (iI (pl)), .int (iI (so)), .int (iI (va))])), (h1, .inl (cI, 300, .inl (aI tb)))] := hD
          refine lv_goto (tgt := 0) hx hb dX8_takeWord_38 (by decide) ?_
          exact ih_0 ((pl9 + 1)) (m9 - 1) (by have hss := skL_s (tb := tb) (m := m9) ⟨show pl9 < tn by omega, by rw [← ebt]; exact c_25⟩ hi2; exact ⟨hss.1.trans hi1, hss.2, by omega, by omega⟩) (by omega) H locs hP hD hS ls (lv_sub hl [0] rfl)
  exact loop_0 _ pl 300 (by exact ⟨rfl, by have := hTx.1; omega, by omega, by omega⟩) (Nat.lt_succ_self _) s.heap [] hP hD hS ls (lv_sub hl [0] rfl)
theorem hsX8_isDigit : yX8_isDigit.cls ≠ "java/lang/invoke/MethodHandle" ∧ yX8_isDigit.cls ≠ "java/lang/invoke/VarHandle" ∧ (parseMethodDescriptor yX8_isDigit.desc).map (fun d => d.parameters.length) = some 1 := by decide +kernel
theorem hvX8_isDigit : yX8_isDigit.cls = RX8 ∧ yX8_isDigit.cls ≠ "java/lang/invoke/MethodHandle" ∧ yX8_isDigit.cls ≠ "java/lang/invoke/VarHandle" ∧ (parseMethodDescriptor yX8_isDigit.desc).map (fun d => d.parameters.length) = some 1 := ⟨rfl, hsX8_isDigit⟩
abbrev rmX8_takeNumber : Room := { frames := 1, cells := 0, slots := 0, locals := 24 }
set_option maxHeartbeats 4000000 in
set_option maxRecDepth 100000 in
theorem c_X8_takeNumber (l : Launch) (D : va_G) (cI cZ : ClassId) (z : jZT) (h0 h1 : Nat) (tn pl so va : Int) (tb : Int → Int) (hTx : TxtI tb tn) (hpl : 0 ≤ pl ∧ pl < tn) : jMu (S := Int × Int × Int) l yX8_takeNumber wsX8_takeNumber rmX8_takeNumber [.ref h0] D cI cZ z [(h0, .inr (8, [.ref h1, .int (iI (tn)), .int (iI (pl)), .int (iI (pl)), .int (iI (so)), .int (iI (va))])), (h1, .inl (cI, 300, .inl (aI tb)))] (fun u => none) (fun u => u.1 = skD tb tn 300 pl ∧ u.2.2 = nuV tb tn 300 pl 0 ∧ u.2.1 = (if 999 < nuV tb tn 300 pl 0 ∨ (tb pl = 48 ∧ 1 < skD tb tn 300 pl - pl) then 4 else 2)) (fun u => [(h0, .inr (8, [.ref h1, .int (iI (tn)), .int (iI (u.1)), .int (iI (pl)), .int (iI (u.2.1)), .int (iI (u.2.2))])), (h1, .inl (cI, 300, .inl (aI tb)))]) := by
  refine jMu_of (cc := cX8_takeNumber) (n := 2) (ret := none) (by decide) rfl (Nat.le_of_ble_eq_true rfl) ?_
  intro p e s m below meth c A ls args Q hQ F hA hZ hP hK hD hS hl
  obtain ⟨hx, hb, hr, hml, hown, hts, hlocks⟩ := F
  have hown : s.vm.findClass RX8 = some m.cls := hown
  have hl : lv_has ls 2 [(0, .ref h0)] := hl
  have L60 := hts (.fieldLink RX8 60 "TinMouse$Text" "value" "I") (by decide +kernel)
  have L9 := hts (.fieldLink RX8 9 "TinMouse$Text" "bytes" "[I") (by decide +kernel)
  have L33 := hts (.fieldLink RX8 33 "TinMouse$Text" "first" "I") (by decide +kernel)
  have IRX10 := hts (.initialized RX10) (by decide +kernel)
  have STyX10_at := hts (.static yX10_at) (by decide +kernel)
  have L36 := hts (.fieldLink RX8 36 "TinMouse$Text" "sort" "I") (by decide +kernel)
  have L23 := hts (.fieldLink RX8 23 "TinMouse$Text" "place" "I") (by decide +kernel)
  have L15 := hts (.fieldLink RX8 15 "TinMouse$Text" "length" "I") (by decide +kernel)
  have LM72_1 := hts (.methodLink RX8 72 Lib.Math.min.name) (by decide +kernel)
  have LM72_2 := hts (.static Lib.Math.min.name) (by decide +kernel)
  have LM72_3 := hts (.initialized "java/lang/Math") (by decide +kernel)
  have LM72_4 := hts (.code Lib.Math.min.name Lib.Math.min.code 2 (some .int)) (by decide +kernel)
  have UX8 : ∀ w ∈ wsX80, w ∈ wsX8_takeNumber := fun w h => List.mem_cons_of_mem _ (List.mem_append_right _ h)
  have hskr := skD_rng tb tn 300 pl
  have hbp := hTx.2 pl (by omega) (by omega)
  have htn := hTx.1
  refine lv_aload_n hx hb dX8_takeNumber_0 rfl (lv_at hl 0 rfl) ?_
  refine lv_iconst (v := iI (0)) hx hb dX8_takeNumber_1 rfl ?_
  refine va_put (D := D) (ci := 8) (v := .int (iI (0))) (ty := .int) (C := RX8) (T := TX8) (N := 6) hx hb hts UX8 tyX8 tyX8_ok nmX8 hown hK hP hD hS 0 rfl rfl 5 (by decide) L60 (fun _ h9 => h9) rfl rfl rfl rfl (Nat.le_of_ble_eq_true rfl) dX8_takeNumber_2 (fun H locs hP hD hS => ?_)
  have hP : va_P D vwCl [(h0, .inr (8, [.ref h1, .int (iI (tn)), .int (iI (pl)), .int (iI (pl)), .int (iI (so)), .int (iI (0))])), (h1, .inl (cI, 300, .inl (aI tb)))] H := hP
  have hD : va_D A [(h0, .inr (8, [.ref h1, .int (iI (tn)), .int (iI (pl)), .int (iI (pl)), .int (iI (so)), .int (iI (0))])), (h1, .inl (cI, 300, .inl (aI tb)))] := hD
  have cut_78 : ∀ (va8 : Int) (pl8 : Int), (pl8 = skD tb tn 300 pl ∧ va8 = nuV tb tn 300 pl 0 ∧ 0 ≤ va8 ∧ va8 ≤ 1000) → ∀ (H : Heap) (locs : List Loc), va_P D vwCl [(h0, .inr (8, [.ref h1, .int (iI (tn)), .int (iI (pl8)), .int (iI (pl)), .int (iI (so)), .int (iI (va8))])), (h1, .inl (cI, 300, .inl (aI tb)))] H → va_D A [(h0, .inr (8, [.ref h1, .int (iI (tn)), .int (iI (pl8)), .int (iI (pl)), .int (iI (so)), .int (iI (va8))])), (h1, .inl (cI, 300, .inl (aI tb)))] → va_S A s.heap H locs → ∀ ls : Array Slot, lv_has ls 2 [(0, .ref h0)] → W p l e rmX8_takeNumber s m args below meth c H locs 0 0 Q (F0 m 78 ls []) := by
    intro va8 pl8 hI_78 H locs hP hD hS ls hl
    obtain ⟨hk1, hk2, hk3, hk4⟩ := hI_78
    refine lv_aload_n hx hb dX8_takeNumber_78 rfl (lv_at hl 0 rfl) ?_
    refine va_get (D := D) (ci := 8) (v := .ref h1) (C := RX8) (T := TX8) (N := 6) hx hb hts UX8 hown hK hP 0 rfl rfl 0 (by decide) L9 (fun _ h9 => h9) rfl dX8_takeNumber_79 ?_
    refine lv_aload_n hx hb dX8_takeNumber_82 rfl (lv_at hl 0 rfl) ?_
    refine va_get (D := D) (ci := 8) (v := .int (iI (pl))) (C := RX8) (T := TX8) (N := 6) hx hb hts UX8 hown hK hP 0 rfl rfl 3 (by decide) L33 (fun _ h9 => h9) rfl dX8_takeNumber_83 ?_
    refine j_rd (va_runSN (As := [.ref h1, .int (iI (pl))]) (rest := []) ⟨hx, hb, hml, hown, hts⟩ (c_X10_at l D cI cZ z h1 pl tb 300 (by first | assumption | omega) (by first | assumption | omega) H.size) ⟨va_cnB 2 hts gX8_takeNumber_X10_at_n29 rfl rfl rfl (hZ.2.2.2.2.2 _ (List.mem_of_getElem? (i := 7) rfl)) IRX10 hsX10_at ⟨Nat.le_of_ble_eq_true rfl, Nat.le_of_ble_eq_true rfl⟩, STyX10_at, trivial⟩ (j_preS hP hD hK hS hZ hA [1] rfl rfl) rfl rfl hl.1 rfl (lv_room (Nat.le_of_ble_eq_true rfl)) dX8_takeNumber_86 ⟨Nat.zero_le _, Nat.zero_le _⟩) ?_
    refine j_top (fun bf ebf => ?_)
    rw [atI_in (by omega)] at ebf
    refine lv_bipush (v := iI (48)) hx hb dX8_takeNumber_89 (by decide) ?_
    refine j_icmp_ne (tgt := 111) hx hb (by omega) dX8_takeNumber_91 (by decide) (fun c_91 => ?_) (fun c_91 => ?_)
    · refine lv_iconst (v := iI (0)) hx hb dX8_takeNumber_111 rfl ?_
      refine lv_istore_n (lv' := [(1, .int (iI (0))), (0, .ref h0)]) hx hb dX8_takeNumber_112 rfl hl (by decide) rfl (fun ls hl => ?_)
      refine lv_aload_n hx hb dX8_takeNumber_113 rfl (lv_at hl 1 rfl) ?_
      refine lv_aload_n hx hb dX8_takeNumber_114 rfl (lv_at hl 1 rfl) ?_
      refine va_get (D := D) (ci := 8) (v := .int (iI (va8))) (C := RX8) (T := TX8) (N := 6) hx hb hts UX8 hown hK hP 0 rfl rfl 5 (by decide) L60 (fun _ h9 => h9) rfl dX8_takeNumber_115 ?_
      refine lv_sipush (v := iI (999)) hx hb dX8_takeNumber_118 (by decide) ?_
      obtain ⟨t_1, et_1⟩ : ∃ t : Int, t = if 999 < va8 then 4 else (if (0 : Int) = 0 then 2 else 4) := ⟨_, rfl⟩
      have kt_1 : W p l e rmX8_takeNumber s m args below meth c H locs 0 0 Q (F0 m 133 ls [.int (iI (t_1)), .ref h0]) := by
        refine va_put (D := D) (ci := 8) (v := .int (iI (t_1))) (ty := .int) (C := RX8) (T := TX8) (N := 6) hx hb hts UX8 tyX8 tyX8_ok nmX8 hown hK hP hD hS 0 rfl rfl 4 (by decide) L36 (fun _ h9 => h9) rfl rfl rfl rfl (Nat.le_of_ble_eq_true rfl) dX8_takeNumber_133 (fun H locs hP hD hS => ?_)
        have hP : va_P D vwCl [(h0, .inr (8, [.ref h1, .int (iI (tn)), .int (iI (pl8)), .int (iI (pl)), .int (iI (t_1)), .int (iI (va8))])), (h1, .inl (cI, 300, .inl (aI tb)))] H := hP
        have hD : va_D A [(h0, .inr (8, [.ref h1, .int (iI (tn)), .int (iI (pl8)), .int (iI (pl)), .int (iI (t_1)), .int (iI (va8))])), (h1, .inl (cI, 300, .inl (aI tb)))] := hD
        rw [hQ]; exact jm_vret (pl8, t_1, va8) hx hb hr hlocks hS hP rfl (by (try dsimp only); first | exact ⟨hk1, hk2, by rw [← hk1, ← hk2, ← ebf]; omega⟩) dX8_takeNumber_136
      refine j_icmp_gt (tgt := 128) hx hb (by omega) dX8_takeNumber_121 (by decide) (fun q_2 => ?_) (fun q_2 => ?_)
      · refine lv_iconst (v := iI (4)) hx hb dX8_takeNumber_128 rfl ?_
        refine lv_goto (tgt := 133) hx hb dX8_takeNumber_129 (by decide) ?_
        (have q9 := kt_1; rw [et_1, if_pos q_2] at q9; exact q9)
      · refine lv_iload_n hx hb dX8_takeNumber_124 rfl (lv_at hl 0 rfl) ?_
        refine j_if_eq (tgt := 132) hx hb (by omega) dX8_takeNumber_125 (by decide) (fun q_3 => ?_) (fun q_3 => ?_)
        · refine lv_iconst (v := iI (2)) hx hb dX8_takeNumber_132 rfl ?_
          (have q9 := kt_1; rw [et_1, if_neg q_2, if_pos q_3] at q9; exact q9)
        · refine lv_iconst (v := iI (4)) hx hb dX8_takeNumber_128 rfl ?_
          refine lv_goto (tgt := 133) hx hb dX8_takeNumber_129 (by decide) ?_
          (have q9 := kt_1; rw [et_1, if_neg q_2, if_neg q_3] at q9; exact q9)
    · refine lv_aload_n hx hb dX8_takeNumber_94 rfl (lv_at hl 0 rfl) ?_
      refine va_get (D := D) (ci := 8) (v := .int (iI (pl8))) (C := RX8) (T := TX8) (N := 6) hx hb hts UX8 hown hK hP 0 rfl rfl 2 (by decide) L23 (fun _ h9 => h9) rfl dX8_takeNumber_95 ?_
      refine lv_aload_n hx hb dX8_takeNumber_98 rfl (lv_at hl 0 rfl) ?_
      refine va_get (D := D) (ci := 8) (v := .int (iI (pl))) (C := RX8) (T := TX8) (N := 6) hx hb hts UX8 hown hK hP 0 rfl rfl 3 (by decide) L33 (fun _ h9 => h9) rfl dX8_takeNumber_99 ?_
      refine j_isub hx hb dX8_takeNumber_102 ?_
      refine lv_iconst (v := iI (1)) hx hb dX8_takeNumber_103 rfl ?_
      obtain ⟨t_4, et_4⟩ : ∃ t : Int, t = if (pl8 - pl) ≤ 1 then 0 else 1 := ⟨_, rfl⟩
      have kt_4 : W p l e rmX8_takeNumber s m args below meth c H locs 0 0 Q (F0 m 112 ls [.int (iI (t_4))]) := by
        refine lv_istore_n (lv' := [(1, .int (iI (t_4))), (0, .ref h0)]) hx hb dX8_takeNumber_112 rfl hl (by decide) rfl (fun ls hl => ?_)
        refine lv_aload_n hx hb dX8_takeNumber_113 rfl (lv_at hl 1 rfl) ?_
        refine lv_aload_n hx hb dX8_takeNumber_114 rfl (lv_at hl 1 rfl) ?_
        refine va_get (D := D) (ci := 8) (v := .int (iI (va8))) (C := RX8) (T := TX8) (N := 6) hx hb hts UX8 hown hK hP 0 rfl rfl 5 (by decide) L60 (fun _ h9 => h9) rfl dX8_takeNumber_115 ?_
        refine lv_sipush (v := iI (999)) hx hb dX8_takeNumber_118 (by decide) ?_
        obtain ⟨t_5, et_5⟩ : ∃ t : Int, t = if 999 < va8 then 4 else (if t_4 = 0 then 2 else 4) := ⟨_, rfl⟩
        have kt_5 : W p l e rmX8_takeNumber s m args below meth c H locs 0 0 Q (F0 m 133 ls [.int (iI (t_5)), .ref h0]) := by
          refine va_put (D := D) (ci := 8) (v := .int (iI (t_5))) (ty := .int) (C := RX8) (T := TX8) (N := 6) hx hb hts UX8 tyX8 tyX8_ok nmX8 hown hK hP hD hS 0 rfl rfl 4 (by decide) L36 (fun _ h9 => h9) rfl rfl rfl rfl (Nat.le_of_ble_eq_true rfl) dX8_takeNumber_133 (fun H locs hP hD hS => ?_)
          have hP : va_P D vwCl [(h0, .inr (8, [.ref h1, .int (iI (tn)), .int (iI (pl8)), .int (iI (pl)), .int (iI (t_5)), .int (iI (va8))])), (h1, .inl (cI, 300, .inl (aI tb)))] H := hP
          have hD : va_D A [(h0, .inr (8, [.ref h1, .int (iI (tn)), .int (iI (pl8)), .int (iI (pl)), .int (iI (t_5)), .int (iI (va8))])), (h1, .inl (cI, 300, .inl (aI tb)))] := hD
          rw [hQ]; exact jm_vret (pl8, t_5, va8) hx hb hr hlocks hS hP rfl (by (try dsimp only); first | exact ⟨hk1, hk2, by rw [← hk1, ← hk2, ← ebf]; omega⟩) dX8_takeNumber_136
        refine j_icmp_gt (tgt := 128) hx hb (by omega) dX8_takeNumber_121 (by decide) (fun q_6 => ?_) (fun q_6 => ?_)
        · refine lv_iconst (v := iI (4)) hx hb dX8_takeNumber_128 rfl ?_
          refine lv_goto (tgt := 133) hx hb dX8_takeNumber_129 (by decide) ?_
          (have q9 := kt_5; rw [et_5, if_pos q_6] at q9; exact q9)
        · refine lv_iload_n hx hb dX8_takeNumber_124 rfl (lv_at hl 0 rfl) ?_
          refine j_if_eq (tgt := 132) hx hb (by omega) dX8_takeNumber_125 (by decide) (fun q_7 => ?_) (fun q_7 => ?_)
          · refine lv_iconst (v := iI (2)) hx hb dX8_takeNumber_132 rfl ?_
            (have q9 := kt_5; rw [et_5, if_neg q_6, if_pos q_7] at q9; exact q9)
          · refine lv_iconst (v := iI (4)) hx hb dX8_takeNumber_128 rfl ?_
            refine lv_goto (tgt := 133) hx hb dX8_takeNumber_129 (by decide) ?_
            (have q9 := kt_5; rw [et_5, if_neg q_6, if_neg q_7] at q9; exact q9)
      refine j_icmp_le (tgt := 111) hx hb (by omega) dX8_takeNumber_104 (by decide) (fun q_8 => ?_) (fun q_8 => ?_)
      · refine lv_iconst (v := iI (0)) hx hb dX8_takeNumber_111 rfl ?_
        (have q9 := kt_4; rw [et_4, if_pos q_8] at q9; exact q9)
      · refine lv_iconst (v := iI (1)) hx hb dX8_takeNumber_107 rfl ?_
        refine lv_goto (tgt := 112) hx hb dX8_takeNumber_108 (by decide) ?_
        (have q9 := kt_4; rw [et_4, if_neg q_8] at q9; exact q9)
  have loop_5 : ∀ (fuel_5 : Nat) (va9 : Int) (pl9 : Int) (m9 : Nat), (skD tb tn m9 pl9 = skD tb tn 300 pl ∧ nuV tb tn m9 pl9 va9 = nuV tb tn 300 pl 0 ∧ tn - pl9 ≤ (m9 : Int) ∧ pl ≤ pl9 ∧ pl9 ≤ tn ∧ 0 ≤ va9 ∧ va9 ≤ 1000) → (tn - pl9).toNat < fuel_5 → ∀ (H : Heap) (locs : List Loc), va_P D vwCl [(h0, .inr (8, [.ref h1, .int (iI (tn)), .int (iI (pl9)), .int (iI (pl)), .int (iI (so)), .int (iI (va9))])), (h1, .inl (cI, 300, .inl (aI tb)))] H → va_D A [(h0, .inr (8, [.ref h1, .int (iI (tn)), .int (iI (pl9)), .int (iI (pl)), .int (iI (so)), .int (iI (va9))])), (h1, .inl (cI, 300, .inl (aI tb)))] → va_S A s.heap H locs → ∀ ls : Array Slot, lv_has ls 2 [(0, .ref h0)] → W p l e rmX8_takeNumber s m args below meth c H locs 0 0 Q (F0 m 5 ls []) := by
    intro fuel_5
    induction fuel_5 with
    | zero => intro va9 pl9 m9 hI9 hm9; exact absurd hm9 (Nat.not_lt_zero _)
    | succ fuel_5 ih_5 =>
      intro va9 pl9 m9 hI_5 hm_5 H locs hP hD hS ls hl
      obtain ⟨hi1, hi2, hi3, hi4, hi5, hi6, hi7⟩ := hI_5
      refine lv_aload_n hx hb dX8_takeNumber_5 rfl (lv_at hl 0 rfl) ?_
      refine va_get (D := D) (ci := 8) (v := .int (iI (pl9))) (C := RX8) (T := TX8) (N := 6) hx hb hts UX8 hown hK hP 0 rfl rfl 2 (by decide) L23 (fun _ h9 => h9) rfl dX8_takeNumber_6 ?_
      refine lv_aload_n hx hb dX8_takeNumber_9 rfl (lv_at hl 0 rfl) ?_
      refine va_get (D := D) (ci := 8) (v := .int (iI (tn))) (C := RX8) (T := TX8) (N := 6) hx hb hts UX8 hown hK hP 0 rfl rfl 1 (by decide) L15 (fun _ h9 => h9) rfl dX8_takeNumber_10 ?_
      refine j_icmp_ge (tgt := 78) hx hb (by omega) dX8_takeNumber_13 (by decide) (fun c_13 => ?_) (fun c_13 => ?_)
      · exact cut_78 va9 pl9 (by have hse := skD_e (tb := tb) (tn := tn) (p := pl9) (v := va9) (m := m9) (by simp_all <;> omega); exact ⟨by rw [← hi1, hse.1], by rw [← hi2, hse.2], by omega, by omega⟩) H locs hP hD hS ls (lv_sub hl [0] rfl)
      · refine lv_aload_n hx hb dX8_takeNumber_16 rfl (lv_at hl 0 rfl) ?_
        have hbr := hTx.2 pl9 (by omega) (by omega)
        refine va_get (D := D) (ci := 8) (v := .ref h1) (C := RX8) (T := TX8) (N := 6) hx hb hts UX8 hown hK hP 0 rfl rfl 0 (by decide) L9 (fun _ h9 => h9) rfl dX8_takeNumber_17 ?_
        refine lv_aload_n hx hb dX8_takeNumber_20 rfl (lv_at hl 0 rfl) ?_
        refine va_get (D := D) (ci := 8) (v := .int (iI (pl9))) (C := RX8) (T := TX8) (N := 6) hx hb hts UX8 hown hK hP 0 rfl rfl 2 (by decide) L23 (fun _ h9 => h9) rfl dX8_takeNumber_21 ?_
        refine j_rd (va_runSN (As := [.ref h1, .int (iI (pl9))]) (rest := []) ⟨hx, hb, hml, hown, hts⟩ (c_X10_at l D cI cZ z h1 pl9 tb 300 (by first | assumption | omega) (by first | assumption | omega) H.size) ⟨va_cnB 2 hts gX8_takeNumber_X10_at_n29 rfl rfl rfl (hZ.2.2.2.2.2 _ (List.mem_of_getElem? (i := 7) rfl)) IRX10 hsX10_at ⟨Nat.le_of_ble_eq_true rfl, Nat.le_of_ble_eq_true rfl⟩, STyX10_at, trivial⟩ (j_preS hP hD hK hS hZ hA [1] rfl rfl) rfl rfl hl.1 rfl (lv_room (Nat.le_of_ble_eq_true rfl)) dX8_takeNumber_24 ⟨Nat.zero_le _, Nat.zero_le _⟩) ?_
        refine j_top (fun bt ebt => ?_)
        rw [atI_in (by omega)] at ebt
        refine j_rd (va_runS (As := [.int (iI (bt))]) (rest := []) ⟨hx, hb, hml, hown, hts⟩ (c_X8_isDigit l D cI cZ z bt (by first | assumption | omega) H.size) (va_cwS 1 hts gX8_takeNumber_X8_isDigit rfl rfl rfl hsX8_isDigit ⟨Nat.le_of_ble_eq_true rfl, Nat.le_of_ble_eq_true rfl⟩) (j_preS hP hD hK hS hZ hA [] rfl rfl) rfl rfl hl.1 rfl (lv_room (Nat.le_of_ble_eq_true rfl)) dX8_takeNumber_27 ⟨Nat.zero_le _, Nat.zero_le _⟩) ?_
        refine j_ifeq_b (tgt := 78) hx hb dX8_takeNumber_30 (by decide) (fun c_30 => ?_) (fun c_30 => ?_)
        · exact cut_78 va9 pl9 (by have hse := skD_e (tb := tb) (tn := tn) (p := pl9) (v := va9) (m := m9) (by simp_all <;> omega); exact ⟨by rw [← hi1, hse.1], by rw [← hi2, hse.2], by omega, by omega⟩) H locs hP hD hS ls (lv_sub hl [0] rfl)
        · refine lv_aload_n hx hb dX8_takeNumber_33 rfl (lv_at hl 0 rfl) ?_
          have hdr : 48 ≤ bt ∧ bt ≤ 57 := isD_rng c_30
          refine lv_sipush (v := iI (1000)) hx hb dX8_takeNumber_34 (by decide) ?_
          refine lv_aload_n hx hb dX8_takeNumber_37 rfl (lv_at hl 0 rfl) ?_
          refine va_get (D := D) (ci := 8) (v := .int (iI (va9))) (C := RX8) (T := TX8) (N := 6) hx hb hts UX8 hown hK hP 0 rfl rfl 5 (by decide) L60 (fun _ h9 => h9) rfl dX8_takeNumber_38 ?_
          refine lv_bipush (v := iI (10)) hx hb dX8_takeNumber_41 (by decide) ?_
          refine j_imul hx hb dX8_takeNumber_43 ?_
          refine lv_aload_n hx hb dX8_takeNumber_44 rfl (lv_at hl 0 rfl) ?_
          refine va_get (D := D) (ci := 8) (v := .ref h1) (C := RX8) (T := TX8) (N := 6) hx hb hts UX8 hown hK hP 0 rfl rfl 0 (by decide) L9 (fun _ h9 => h9) rfl dX8_takeNumber_45 ?_
          refine lv_aload_n hx hb dX8_takeNumber_48 rfl (lv_at hl 0 rfl) ?_
          refine va_get (D := D) (ci := 8) (v := .int (iI (pl9))) (C := RX8) (T := TX8) (N := 6) hx hb hts UX8 hown hK hP 0 rfl rfl 2 (by decide) L23 (fun _ h9 => h9) rfl dX8_takeNumber_49 ?_
          refine j_rd (va_runSN (As := [.ref h1, .int (iI (pl9))]) (rest := [.int (iI (va9 * 10)), .int (iI (1000)), .ref h0]) ⟨hx, hb, hml, hown, hts⟩ (c_X10_at l D cI cZ z h1 pl9 tb 300 (by first | assumption | omega) (by first | assumption | omega) H.size) ⟨va_cnB 2 hts gX8_takeNumber_X10_at_n29 rfl rfl rfl (hZ.2.2.2.2.2 _ (List.mem_of_getElem? (i := 7) rfl)) IRX10 hsX10_at ⟨Nat.le_of_ble_eq_true rfl, Nat.le_of_ble_eq_true rfl⟩, STyX10_at, trivial⟩ (j_preS hP hD hK hS hZ hA [1] rfl rfl) rfl rfl hl.1 rfl (lv_room (Nat.le_of_ble_eq_true rfl)) dX8_takeNumber_52 ⟨Nat.zero_le _, Nat.zero_le _⟩) ?_
          refine j_top (fun bu ebu => ?_)
          rw [atI_in (by omega)] at ebu
          rw [← ebt] at ebu
          refine j_iadd hx hb dX8_takeNumber_55 ?_
          refine lv_bipush (v := iI (48)) hx hb dX8_takeNumber_56 (by decide) ?_
          refine j_isub hx hb dX8_takeNumber_58 ?_
          refine j_mmin hx hb (hml.trans hl.1.symm) hown LM72_1 LM72_2 LM72_3 LM72_4 (Nat.le_of_ble_eq_true rfl) (Nat.le_of_ble_eq_true rfl) (Nat.zero_le _) (Nat.zero_le _) (by omega) dX8_takeNumber_59 ?_
          refine j_top (fun mv emv => ?_)
          refine va_put (D := D) (ci := 8) (v := .int (iI (mv))) (ty := .int) (C := RX8) (T := TX8) (N := 6) hx hb hts UX8 tyX8 tyX8_ok nmX8 hown hK hP hD hS 0 rfl rfl 5 (by decide) L60 (fun _ h9 => h9) rfl rfl rfl rfl (Nat.le_of_ble_eq_true rfl) dX8_takeNumber_62 (fun H locs hP hD hS => ?_)
          have hP : va_P D vwCl [(h0, .inr (8, [.ref h1, .int (iI (tn)), .int (iI (pl9)), .int (iI (pl)), .int (iI (so)), .int (iI (mv))])), (h1, .inl (cI, 300, .inl (aI tb)))] H := hP
          have hD : va_D A [(h0, .inr (8, [.ref h1, .int (iI (tn)), .int (iI (pl9)), .int (iI (pl)), .int (iI (so)), .int (iI (mv))])), (h1, .inl (cI, 300, .inl (aI tb)))] := hD
          refine lv_aload_n hx hb dX8_takeNumber_65 rfl (lv_at hl 0 rfl) ?_
          refine lv_dup hx hb dX8_takeNumber_66 rfl ?_
          refine va_get (D := D) (ci := 8) (v := .int (iI (pl9))) (C := RX8) (T := TX8) (N := 6) hx hb hts UX8 hown hK hP 0 rfl rfl 2 (by decide) L23 (fun _ h9 => h9) rfl dX8_takeNumber_67 ?_
          refine lv_iconst (v := iI (1)) hx hb dX8_takeNumber_70 rfl ?_
          refine j_iadd hx hb dX8_takeNumber_71 ?_
          refine va_put (D := D) (ci := 8) (v := .int (iI (pl9 + 1))) (ty := .int) (C := RX8) (T := TX8) (N := 6) hx hb hts UX8 tyX8 tyX8_ok nmX8 hown hK hP hD hS 0 rfl rfl 2 (by decide) L23 (fun _ h9 => h9) rfl rfl rfl rfl (Nat.le_of_ble_eq_true rfl) dX8_takeNumber_72 (fun H locs hP hD hS => ?_)
          have hP : va_P D vwCl [(h0, .inr (8, [.ref h1, .int (iI (tn)), .int (iI (pl9 + 1)), .int (iI (pl)), .int (iI (so)), .int (iI (mv))])), (h1, .inl (cI, 300, .inl (aI tb)))] H := hP
          have hD : va_D A [(h0, .inr (8, [.ref h1, .int (iI (tn)), .int (iI (pl9 + 1)), .int (iI (pl)), .int (iI (so)), .int (iI (mv))])), (h1, .inl (cI, 300, .inl (aI tb)))] := hD
          refine lv_goto (tgt := 5) hx hb dX8_takeNumber_75 (by decide) ?_
          exact ih_5 mv ((pl9 + 1)) (m9 - 1) (by have hss := skD_s (tb := tb) (m := m9) (v := va9) ⟨show pl9 < tn by omega, by rw [← ebt]; exact c_30⟩ hi3; rw [← ebt, ← ebu] at hss; rw [emv]; exact ⟨hss.1.trans hi1, hss.2.1.trans hi2, hss.2.2, by omega, by omega, by omega, by omega⟩) (by omega) H locs hP hD hS ls (lv_sub hl [0] rfl)
  exact loop_5 _ 0 pl 300 (by exact ⟨rfl, rfl, by omega, by omega, by omega, by omega, by omega⟩) (Nat.lt_succ_self _) H locs hP hD hS ls (lv_sub hl [0] rfl)
theorem hsX8_takeNumber : yX8_takeNumber.cls ≠ "java/lang/invoke/MethodHandle" ∧ yX8_takeNumber.cls ≠ "java/lang/invoke/VarHandle" ∧ (parseMethodDescriptor yX8_takeNumber.desc).map (fun d => d.parameters.length) = some 0 := by decide +kernel
theorem hvX8_takeNumber : yX8_takeNumber.cls = RX8 ∧ yX8_takeNumber.cls ≠ "java/lang/invoke/MethodHandle" ∧ yX8_takeNumber.cls ≠ "java/lang/invoke/VarHandle" ∧ (parseMethodDescriptor yX8_takeNumber.desc).map (fun d => d.parameters.length) = some 0 := ⟨rfl, hsX8_takeNumber⟩
theorem hsX8_takeWord : yX8_takeWord.cls ≠ "java/lang/invoke/MethodHandle" ∧ yX8_takeWord.cls ≠ "java/lang/invoke/VarHandle" ∧ (parseMethodDescriptor yX8_takeWord.desc).map (fun d => d.parameters.length) = some 0 := by decide +kernel
theorem hvX8_takeWord : yX8_takeWord.cls = RX8 ∧ yX8_takeWord.cls ≠ "java/lang/invoke/MethodHandle" ∧ yX8_takeWord.cls ≠ "java/lang/invoke/VarHandle" ∧ (parseMethodDescriptor yX8_takeWord.desc).map (fun d => d.parameters.length) = some 0 := ⟨rfl, hsX8_takeWord⟩
abbrev rmX8_next : Room := { frames := 6, cells := 0, slots := 0, locals := 129 }
set_option maxHeartbeats 4000000 in
set_option maxRecDepth 100000 in
theorem c_X8_next (l : Launch) (D : va_G) (cI cZ : ClassId) (z : jZT) (h0 h1 : Nat) (tn pl fi so va : Int) (tb : Int → Int) (hTx : TxtI tb tn) (hpl : 0 ≤ pl ∧ pl ≤ tn) : jMu (S := Int × Int × Int × Int) l yX8_next wsX8_next rmX8_next [.ref h0] D cI cZ z [(h0, .inr (8, [.ref h1, .int (iI (tn)), .int (iI (pl)), .int (iI (fi)), .int (iI (so)), .int (iI (va))])), (h1, .inl (cI, 300, .inl (aI tb)))] (fun u => none) (fun u => u.2.1 = tkF tb tn pl ∧ u.2.2.1 = tkS tb tn pl ∧ u.1 = tkE tb tn pl ∧ (u.2.2.1 = 1 ∨ u.2.2.1 = 2 → u.2.2.2 = tkV tb tn pl)) (fun u => [(h0, .inr (8, [.ref h1, .int (iI (tn)), .int (iI (u.1)), .int (iI (u.2.1)), .int (iI (u.2.2.1)), .int (iI (u.2.2.2))])), (h1, .inl (cI, 300, .inl (aI tb)))]) := by
  refine jMu_of (cc := cX8_next) (n := 1) (ret := none) (by decide) rfl (Nat.le_of_ble_eq_true rfl) ?_
  intro p e s m below meth c A ls args Q hQ F hA hZ hP hK hD hS hl
  obtain ⟨hx, hb, hr, hml, hown, hts, hlocks⟩ := F
  have hown : s.vm.findClass RX8 = some m.cls := hown
  have hl : lv_has ls 1 [(0, .ref h0)] := hl
  have L23 := hts (.fieldLink RX8 23 "TinMouse$Text" "place" "I") (by decide +kernel)
  have L33 := hts (.fieldLink RX8 33 "TinMouse$Text" "first" "I") (by decide +kernel)
  have L15 := hts (.fieldLink RX8 15 "TinMouse$Text" "length" "I") (by decide +kernel)
  have L9 := hts (.fieldLink RX8 9 "TinMouse$Text" "bytes" "[I") (by decide +kernel)
  have IRX10 := hts (.initialized RX10) (by decide +kernel)
  have STyX10_at := hts (.static yX10_at) (by decide +kernel)
  have L36 := hts (.fieldLink RX8 36 "TinMouse$Text" "sort" "I") (by decide +kernel)
  have UX8 : ∀ w ∈ wsX80, w ∈ wsX8_next := fun w h => List.mem_cons_of_mem _ (List.mem_append_right _ h)
  have hskr := skB_rng tb tn 300 pl
  have htn := hTx.1
  have htf : tkF tb tn pl = skB tb tn 300 pl := rfl
  have cut_40 : ∀ (pl8 : Int), (pl8 = tkF tb tn pl) → ∀ (H : Heap) (locs : List Loc), va_P D vwCl [(h0, .inr (8, [.ref h1, .int (iI (tn)), .int (iI (pl8)), .int (iI (fi)), .int (iI (so)), .int (iI (va))])), (h1, .inl (cI, 300, .inl (aI tb)))] H → va_D A [(h0, .inr (8, [.ref h1, .int (iI (tn)), .int (iI (pl8)), .int (iI (fi)), .int (iI (so)), .int (iI (va))])), (h1, .inl (cI, 300, .inl (aI tb)))] → va_S A s.heap H locs → ∀ ls : Array Slot, lv_has ls 1 [(0, .ref h0)] → W p l e rmX8_next s m args below meth c H locs 0 0 Q (F0 m 40 ls []) := by
    intro pl8 hI_40 H locs hP hD hS ls hl
    refine lv_aload_n hx hb dX8_next_40 rfl (lv_at hl 0 rfl) ?_
    refine lv_aload_n hx hb dX8_next_41 rfl (lv_at hl 0 rfl) ?_
    refine va_get (D := D) (ci := 8) (v := .int (iI (pl8))) (C := RX8) (T := TX8) (N := 6) hx hb hts UX8 hown hK hP 0 rfl rfl 2 (by decide) L23 (fun _ h9 => h9) rfl dX8_next_42 ?_
    refine va_put (D := D) (ci := 8) (v := .int (iI (pl8))) (ty := .int) (C := RX8) (T := TX8) (N := 6) hx hb hts UX8 tyX8 tyX8_ok nmX8 hown hK hP hD hS 0 rfl rfl 3 (by decide) L33 (fun _ h9 => h9) rfl rfl rfl rfl (Nat.le_of_ble_eq_true rfl) dX8_next_45 (fun H locs hP hD hS => ?_)
    have hP : va_P D vwCl [(h0, .inr (8, [.ref h1, .int (iI (tn)), .int (iI (pl8)), .int (iI (pl8)), .int (iI (so)), .int (iI (va))])), (h1, .inl (cI, 300, .inl (aI tb)))] H := hP
    have hD : va_D A [(h0, .inr (8, [.ref h1, .int (iI (tn)), .int (iI (pl8)), .int (iI (pl8)), .int (iI (so)), .int (iI (va))])), (h1, .inl (cI, 300, .inl (aI tb)))] := hD
    refine lv_aload_n hx hb dX8_next_48 rfl (lv_at hl 0 rfl) ?_
    refine va_get (D := D) (ci := 8) (v := .int (iI (pl8))) (C := RX8) (T := TX8) (N := 6) hx hb hts UX8 hown hK hP 0 rfl rfl 2 (by decide) L23 (fun _ h9 => h9) rfl dX8_next_49 ?_
    refine lv_aload_n hx hb dX8_next_52 rfl (lv_at hl 0 rfl) ?_
    refine va_get (D := D) (ci := 8) (v := .int (iI (tn))) (C := RX8) (T := TX8) (N := 6) hx hb hts UX8 hown hK hP 0 rfl rfl 1 (by decide) L15 (fun _ h9 => h9) rfl dX8_next_53 ?_
    refine j_icmp_lt (tgt := 67) hx hb (by omega) dX8_next_56 (by decide) (fun c_56 => ?_) (fun c_56 => ?_)
    · refine lv_aload_n hx hb dX8_next_67 rfl (lv_at hl 0 rfl) ?_
      have hbq := hTx.2 pl8 (by omega) (by omega)
      refine va_get (D := D) (ci := 8) (v := .ref h1) (C := RX8) (T := TX8) (N := 6) hx hb hts UX8 hown hK hP 0 rfl rfl 0 (by decide) L9 (fun _ h9 => h9) rfl dX8_next_68 ?_
      refine lv_aload_n hx hb dX8_next_71 rfl (lv_at hl 0 rfl) ?_
      refine va_get (D := D) (ci := 8) (v := .int (iI (pl8))) (C := RX8) (T := TX8) (N := 6) hx hb hts UX8 hown hK hP 0 rfl rfl 2 (by decide) L23 (fun _ h9 => h9) rfl dX8_next_72 ?_
      refine j_rd (va_runSN (As := [.ref h1, .int (iI (pl8))]) (rest := []) ⟨hx, hb, hml, hown, hts⟩ (c_X10_at l D cI cZ z h1 pl8 tb 300 (by first | assumption | omega) (by first | assumption | omega) H.size) ⟨va_cnB 2 hts gX8_next_X10_at_n29 rfl rfl rfl (hZ.2.2.2.2.2 _ (List.mem_of_getElem? (i := 7) rfl)) IRX10 hsX10_at ⟨Nat.le_of_ble_eq_true rfl, Nat.le_of_ble_eq_true rfl⟩, STyX10_at, trivial⟩ (j_preS hP hD hK hS hZ hA [1] rfl rfl) rfl rfl hl.1 rfl (lv_room (Nat.le_of_ble_eq_true rfl)) dX8_next_75 ⟨Nat.zero_le _, Nat.zero_le _⟩) ?_
      refine j_top (fun ba eba => ?_)
      rw [atI_in (by omega)] at eba
      refine j_rd (va_runS (As := [.int (iI (ba))]) (rest := []) ⟨hx, hb, hml, hown, hts⟩ (c_X8_isLetter l D cI cZ z ba (by first | assumption | omega) H.size) (va_cwS 1 hts gX8_next_X8_isLetter rfl rfl rfl hsX8_isLetter ⟨Nat.le_of_ble_eq_true rfl, Nat.le_of_ble_eq_true rfl⟩) (j_preS hP hD hK hS hZ hA [] rfl rfl) rfl rfl hl.1 rfl (lv_room (Nat.le_of_ble_eq_true rfl)) dX8_next_78 ⟨Nat.zero_le _, Nat.zero_le _⟩) ?_
      refine j_ifeq_b (tgt := 91) hx hb dX8_next_81 (by decide) (fun c_81 => ?_) (fun c_81 => ?_)
      · refine lv_aload_n hx hb dX8_next_91 rfl (lv_at hl 0 rfl) ?_
        refine va_get (D := D) (ci := 8) (v := .ref h1) (C := RX8) (T := TX8) (N := 6) hx hb hts UX8 hown hK hP 0 rfl rfl 0 (by decide) L9 (fun _ h9 => h9) rfl dX8_next_92 ?_
        refine lv_aload_n hx hb dX8_next_95 rfl (lv_at hl 0 rfl) ?_
        refine va_get (D := D) (ci := 8) (v := .int (iI (pl8))) (C := RX8) (T := TX8) (N := 6) hx hb hts UX8 hown hK hP 0 rfl rfl 2 (by decide) L23 (fun _ h9 => h9) rfl dX8_next_96 ?_
        refine j_rd (va_runSN (As := [.ref h1, .int (iI (pl8))]) (rest := []) ⟨hx, hb, hml, hown, hts⟩ (c_X10_at l D cI cZ z h1 pl8 tb 300 (by first | assumption | omega) (by first | assumption | omega) H.size) ⟨va_cnB 2 hts gX8_next_X10_at_n29 rfl rfl rfl (hZ.2.2.2.2.2 _ (List.mem_of_getElem? (i := 7) rfl)) IRX10 hsX10_at ⟨Nat.le_of_ble_eq_true rfl, Nat.le_of_ble_eq_true rfl⟩, STyX10_at, trivial⟩ (j_preS hP hD hK hS hZ hA [1] rfl rfl) rfl rfl hl.1 rfl (lv_room (Nat.le_of_ble_eq_true rfl)) dX8_next_99 ⟨Nat.zero_le _, Nat.zero_le _⟩) ?_
        refine j_top (fun bb ebb => ?_)
        rw [atI_in (by omega)] at ebb
        refine j_rd (va_runS (As := [.int (iI (bb))]) (rest := []) ⟨hx, hb, hml, hown, hts⟩ (c_X8_isDigit l D cI cZ z bb (by first | assumption | omega) H.size) (va_cwS 1 hts gX8_next_X8_isDigit rfl rfl rfl hsX8_isDigit ⟨Nat.le_of_ble_eq_true rfl, Nat.le_of_ble_eq_true rfl⟩) (j_preS hP hD hK hS hZ hA [] rfl rfl) rfl rfl hl.1 rfl (lv_room (Nat.le_of_ble_eq_true rfl)) dX8_next_102 ⟨Nat.zero_le _, Nat.zero_le _⟩) ?_
        refine j_ifeq_b (tgt := 115) hx hb dX8_next_105 (by decide) (fun c_105 => ?_) (fun c_105 => ?_)
        · refine lv_aload_n hx hb dX8_next_115 rfl (lv_at hl 0 rfl) ?_
          refine lv_aload_n hx hb dX8_next_116 rfl (lv_at hl 0 rfl) ?_
          refine va_get (D := D) (ci := 8) (v := .ref h1) (C := RX8) (T := TX8) (N := 6) hx hb hts UX8 hown hK hP 0 rfl rfl 0 (by decide) L9 (fun _ h9 => h9) rfl dX8_next_117 ?_
          refine lv_aload_n hx hb dX8_next_120 rfl (lv_at hl 0 rfl) ?_
          refine va_get (D := D) (ci := 8) (v := .int (iI (pl8))) (C := RX8) (T := TX8) (N := 6) hx hb hts UX8 hown hK hP 0 rfl rfl 2 (by decide) L23 (fun _ h9 => h9) rfl dX8_next_121 ?_
          refine j_rd (va_runSN (As := [.ref h1, .int (iI (pl8))]) (rest := [.ref h0]) ⟨hx, hb, hml, hown, hts⟩ (c_X10_at l D cI cZ z h1 pl8 tb 300 (by first | assumption | omega) (by first | assumption | omega) H.size) ⟨va_cnB 2 hts gX8_next_X10_at_n29 rfl rfl rfl (hZ.2.2.2.2.2 _ (List.mem_of_getElem? (i := 7) rfl)) IRX10 hsX10_at ⟨Nat.le_of_ble_eq_true rfl, Nat.le_of_ble_eq_true rfl⟩, STyX10_at, trivial⟩ (j_preS hP hD hK hS hZ hA [1] rfl rfl) rfl rfl hl.1 rfl (lv_room (Nat.le_of_ble_eq_true rfl)) dX8_next_124 ⟨Nat.zero_le _, Nat.zero_le _⟩) ?_
          refine j_top (fun bc ebc => ?_)
          rw [atI_in (by omega)] at ebc
          refine lv_bipush (v := iI (59)) hx hb dX8_next_127 (by decide) ?_
          obtain ⟨ts, ets⟩ : ∃ t : Int, t = if ¬ bc = 59 then 4 else 3 := ⟨_, rfl⟩
          have kts : W p l e rmX8_next s m args below meth c H locs 0 0 Q (F0 m 137 ls [.int (iI (ts)), .ref h0]) := by
            refine va_put (D := D) (ci := 8) (v := .int (iI (ts))) (ty := .int) (C := RX8) (T := TX8) (N := 6) hx hb hts UX8 tyX8 tyX8_ok nmX8 hown hK hP hD hS 0 rfl rfl 4 (by decide) L36 (fun _ h9 => h9) rfl rfl rfl rfl (Nat.le_of_ble_eq_true rfl) dX8_next_137 (fun H locs hP hD hS => ?_)
            have hP : va_P D vwCl [(h0, .inr (8, [.ref h1, .int (iI (tn)), .int (iI (pl8)), .int (iI (pl8)), .int (iI (ts)), .int (iI (va))])), (h1, .inl (cI, 300, .inl (aI tb)))] H := hP
            have hD : va_D A [(h0, .inr (8, [.ref h1, .int (iI (tn)), .int (iI (pl8)), .int (iI (pl8)), .int (iI (ts)), .int (iI (va))])), (h1, .inl (cI, 300, .inl (aI tb)))] := hD
            refine lv_aload_n hx hb dX8_next_140 rfl (lv_at hl 0 rfl) ?_
            refine lv_dup hx hb dX8_next_141 rfl ?_
            refine va_get (D := D) (ci := 8) (v := .int (iI (pl8))) (C := RX8) (T := TX8) (N := 6) hx hb hts UX8 hown hK hP 0 rfl rfl 2 (by decide) L23 (fun _ h9 => h9) rfl dX8_next_142 ?_
            refine lv_iconst (v := iI (1)) hx hb dX8_next_145 rfl ?_
            refine j_iadd hx hb dX8_next_146 ?_
            refine va_put (D := D) (ci := 8) (v := .int (iI (pl8 + 1))) (ty := .int) (C := RX8) (T := TX8) (N := 6) hx hb hts UX8 tyX8 tyX8_ok nmX8 hown hK hP hD hS 0 rfl rfl 2 (by decide) L23 (fun _ h9 => h9) rfl rfl rfl rfl (Nat.le_of_ble_eq_true rfl) dX8_next_147 (fun H locs hP hD hS => ?_)
            have hP : va_P D vwCl [(h0, .inr (8, [.ref h1, .int (iI (tn)), .int (iI (pl8 + 1)), .int (iI (pl8)), .int (iI (ts)), .int (iI (va))])), (h1, .inl (cI, 300, .inl (aI tb)))] H := hP
            have hD : va_D A [(h0, .inr (8, [.ref h1, .int (iI (tn)), .int (iI (pl8 + 1)), .int (iI (pl8)), .int (iI (ts)), .int (iI (va))])), (h1, .inl (cI, 300, .inl (aI tb)))] := hD
            rw [hQ]; exact jm_vret (pl8 + 1, pl8, ts, va) hx hb hr hlocks hS hP rfl (by (try dsimp only); simp only [tkS, tkE, tkV, ← hI_40] <;> simp_all <;> omega) dX8_next_150
          refine j_icmp_ne (tgt := 136) hx hb (by omega) dX8_next_129 (by decide) (fun q_1 => ?_) (fun q_1 => ?_)
          · refine lv_iconst (v := iI (4)) hx hb dX8_next_136 rfl ?_
            (have q9 := kts; rw [ets, if_pos q_1] at q9; exact q9)
          · refine lv_iconst (v := iI (3)) hx hb dX8_next_132 rfl ?_
            refine lv_goto (tgt := 137) hx hb dX8_next_133 (by decide) ?_
            (have q9 := kts; rw [ets, if_neg (fun q => q q_1)] at q9; exact q9)
        · refine lv_aload_n hx hb dX8_next_108 rfl (lv_at hl 0 rfl) ?_
          refine j_muv (va_runV (As := []) (rest := []) ⟨hx, hb, hml, hown, hts⟩ (c_X8_takeNumber l D cI cZ z h0 h1 tn pl8 so va tb (by first | assumption | omega) (by first | assumption | omega) H.size) (cwV 0 hts gX8_next_X8_takeNumber rfl rfl rfl hvX8_takeNumber ⟨Nat.le_of_ble_eq_true rfl, Nat.le_of_ble_eq_true rfl⟩) (j_preV hP hD hK hS hZ hA [0, 1] rfl rfl 0 rfl rfl) rfl rfl hl.1 rfl (lv_room (Nat.le_of_ble_eq_true rfl)) dX8_next_109 ⟨Nat.zero_le _, Nat.zero_le _⟩) hP hD hS hA [0, 1] rfl (fun _ => rfl) (fun u_9 H locs hw_109 hP hD hS => ?_)
          obtain ⟨pl2_2, so2_3, va2_4⟩ := u_9
          dsimp only at hw_109
          have hP : va_P D vwCl [(h0, .inr (8, [.ref h1, .int (iI (tn)), .int (iI (pl2_2)), .int (iI (pl8)), .int (iI (so2_3)), .int (iI (va2_4))])), (h1, .inl (cI, 300, .inl (aI tb)))] H := hP
          have hD : va_D A [(h0, .inr (8, [.ref h1, .int (iI (tn)), .int (iI (pl2_2)), .int (iI (pl8)), .int (iI (so2_3)), .int (iI (va2_4))])), (h1, .inl (cI, 300, .inl (aI tb)))] := hD
          obtain ⟨hq1, hq2, hq3⟩ := hw_109
          refine lv_goto (tgt := 150) hx hb dX8_next_112 (by decide) ?_
          rw [hQ]; exact jm_vret (pl2_2, pl8, so2_3, va2_4) hx hb hr hlocks hS hP rfl (by (try dsimp only); simp only [tkS, tkE, tkV, ← hI_40] <;> simp_all <;> omega) dX8_next_150
      · refine lv_aload_n hx hb dX8_next_84 rfl (lv_at hl 0 rfl) ?_
        refine j_muv (va_runV (As := []) (rest := []) ⟨hx, hb, hml, hown, hts⟩ (c_X8_takeWord l D cI cZ z h0 h1 tn pl8 so va tb (by first | assumption | omega) (by first | assumption | omega) H.size) (cwV 0 hts gX8_next_X8_takeWord rfl rfl rfl hvX8_takeWord ⟨Nat.le_of_ble_eq_true rfl, Nat.le_of_ble_eq_true rfl⟩) (j_preV hP hD hK hS hZ hA [0, 1] rfl rfl 0 rfl rfl) rfl rfl hl.1 rfl (lv_room (Nat.le_of_ble_eq_true rfl)) dX8_next_85 ⟨Nat.zero_le _, Nat.zero_le _⟩) hP hD hS hA [0, 1] rfl (fun _ => rfl) (fun u_9 H locs hw_85 hP hD hS => ?_)
        obtain ⟨pl2_5, so2_6, va2_7⟩ := u_9
        dsimp only at hw_85
        have hP : va_P D vwCl [(h0, .inr (8, [.ref h1, .int (iI (tn)), .int (iI (pl2_5)), .int (iI (pl8)), .int (iI (so2_6)), .int (iI (va2_7))])), (h1, .inl (cI, 300, .inl (aI tb)))] H := hP
        have hD : va_D A [(h0, .inr (8, [.ref h1, .int (iI (tn)), .int (iI (pl2_5)), .int (iI (pl8)), .int (iI (so2_6)), .int (iI (va2_7))])), (h1, .inl (cI, 300, .inl (aI tb)))] := hD
        obtain ⟨hq1, hq2, hq3⟩ := hw_85
        refine lv_goto (tgt := 150) hx hb dX8_next_88 (by decide) ?_
        rw [hQ]; exact jm_vret (pl2_5, pl8, so2_6, va2_7) hx hb hr hlocks hS hP rfl (by (try dsimp only); simp only [tkS, tkE, tkV, ← hI_40] <;> simp_all <;> omega) dX8_next_150
    · refine lv_aload_n hx hb dX8_next_59 rfl (lv_at hl 0 rfl) ?_
      refine lv_iconst (v := iI (0)) hx hb dX8_next_60 rfl ?_
      refine va_put (D := D) (ci := 8) (v := .int (iI (0))) (ty := .int) (C := RX8) (T := TX8) (N := 6) hx hb hts UX8 tyX8 tyX8_ok nmX8 hown hK hP hD hS 0 rfl rfl 4 (by decide) L36 (fun _ h9 => h9) rfl rfl rfl rfl (Nat.le_of_ble_eq_true rfl) dX8_next_61 (fun H locs hP hD hS => ?_)
      have hP : va_P D vwCl [(h0, .inr (8, [.ref h1, .int (iI (tn)), .int (iI (pl8)), .int (iI (pl8)), .int (iI (0)), .int (iI (va))])), (h1, .inl (cI, 300, .inl (aI tb)))] H := hP
      have hD : va_D A [(h0, .inr (8, [.ref h1, .int (iI (tn)), .int (iI (pl8)), .int (iI (pl8)), .int (iI (0)), .int (iI (va))])), (h1, .inl (cI, 300, .inl (aI tb)))] := hD
      refine lv_goto (tgt := 150) hx hb dX8_next_64 (by decide) ?_
      rw [hQ]; exact jm_vret (pl8, pl8, 0, va) hx hb hr hlocks hS hP rfl (by (try dsimp only); simp only [tkS, tkE, tkV, ← hI_40] <;> simp_all <;> omega) dX8_next_150
  have loop_0 : ∀ (fuel_0 : Nat) (pl9 : Int) (m9 : Nat), (skB tb tn m9 pl9 = skB tb tn 300 pl ∧ tn - pl9 ≤ (m9 : Int) ∧ pl ≤ pl9 ∧ pl9 ≤ tn) → (tn - pl9).toNat < fuel_0 → ∀ (H : Heap) (locs : List Loc), va_P D vwCl [(h0, .inr (8, [.ref h1, .int (iI (tn)), .int (iI (pl9)), .int (iI (fi)), .int (iI (so)), .int (iI (va))])), (h1, .inl (cI, 300, .inl (aI tb)))] H → va_D A [(h0, .inr (8, [.ref h1, .int (iI (tn)), .int (iI (pl9)), .int (iI (fi)), .int (iI (so)), .int (iI (va))])), (h1, .inl (cI, 300, .inl (aI tb)))] → va_S A s.heap H locs → ∀ ls : Array Slot, lv_has ls 1 [(0, .ref h0)] → W p l e rmX8_next s m args below meth c H locs 0 0 Q (F0 m 0 ls []) := by
    intro fuel_0
    induction fuel_0 with
    | zero => intro pl9 m9 hI9 hm9; exact absurd hm9 (Nat.not_lt_zero _)
    | succ fuel_0 ih_0 =>
      intro pl9 m9 hI_0 hm_0 H locs hP hD hS ls hl
      obtain ⟨hi1, hi2, hi3, hi4⟩ := hI_0
      refine lv_aload_n hx hb dX8_next_0 rfl (lv_at hl 0 rfl) ?_
      refine va_get (D := D) (ci := 8) (v := .int (iI (pl9))) (C := RX8) (T := TX8) (N := 6) hx hb hts UX8 hown hK hP 0 rfl rfl 2 (by decide) L23 (fun _ h9 => h9) rfl dX8_next_1 ?_
      refine lv_aload_n hx hb dX8_next_4 rfl (lv_at hl 0 rfl) ?_
      refine va_get (D := D) (ci := 8) (v := .int (iI (tn))) (C := RX8) (T := TX8) (N := 6) hx hb hts UX8 hown hK hP 0 rfl rfl 1 (by decide) L15 (fun _ h9 => h9) rfl dX8_next_5 ?_
      refine j_icmp_ge (tgt := 40) hx hb (by omega) dX8_next_8 (by decide) (fun c_8 => ?_) (fun c_8 => ?_)
      · exact cut_40 pl9 (by rw [htf, ← hi1, skB_e (by omega)]) H locs hP hD hS ls (lv_sub hl [0] rfl)
      · refine lv_aload_n hx hb dX8_next_11 rfl (lv_at hl 0 rfl) ?_
        have hbr := hTx.2 pl9 (by omega) (by omega)
        refine va_get (D := D) (ci := 8) (v := .ref h1) (C := RX8) (T := TX8) (N := 6) hx hb hts UX8 hown hK hP 0 rfl rfl 0 (by decide) L9 (fun _ h9 => h9) rfl dX8_next_12 ?_
        refine lv_aload_n hx hb dX8_next_15 rfl (lv_at hl 0 rfl) ?_
        refine va_get (D := D) (ci := 8) (v := .int (iI (pl9))) (C := RX8) (T := TX8) (N := 6) hx hb hts UX8 hown hK hP 0 rfl rfl 2 (by decide) L23 (fun _ h9 => h9) rfl dX8_next_16 ?_
        refine j_rd (va_runSN (As := [.ref h1, .int (iI (pl9))]) (rest := []) ⟨hx, hb, hml, hown, hts⟩ (c_X10_at l D cI cZ z h1 pl9 tb 300 (by first | assumption | omega) (by first | assumption | omega) H.size) ⟨va_cnB 2 hts gX8_next_X10_at_n29 rfl rfl rfl (hZ.2.2.2.2.2 _ (List.mem_of_getElem? (i := 7) rfl)) IRX10 hsX10_at ⟨Nat.le_of_ble_eq_true rfl, Nat.le_of_ble_eq_true rfl⟩, STyX10_at, trivial⟩ (j_preS hP hD hK hS hZ hA [1] rfl rfl) rfl rfl hl.1 rfl (lv_room (Nat.le_of_ble_eq_true rfl)) dX8_next_19 ⟨Nat.zero_le _, Nat.zero_le _⟩) ?_
        refine j_top (fun bt ebt => ?_)
        rw [atI_in (by omega)] at ebt
        refine lv_bipush (v := iI (32)) hx hb dX8_next_22 (by decide) ?_
        refine j_icmp_ne (tgt := 40) hx hb (by omega) dX8_next_24 (by decide) (fun c_24 => ?_) (fun c_24 => ?_)
        · exact cut_40 pl9 (by rw [htf, ← hi1, skB_e (by omega)]) H locs hP hD hS ls (lv_sub hl [0] rfl)
        · refine lv_aload_n hx hb dX8_next_27 rfl (lv_at hl 0 rfl) ?_
          refine lv_dup hx hb dX8_next_28 rfl ?_
          refine va_get (D := D) (ci := 8) (v := .int (iI (pl9))) (C := RX8) (T := TX8) (N := 6) hx hb hts UX8 hown hK hP 0 rfl rfl 2 (by decide) L23 (fun _ h9 => h9) rfl dX8_next_29 ?_
          refine lv_iconst (v := iI (1)) hx hb dX8_next_32 rfl ?_
          refine j_iadd hx hb dX8_next_33 ?_
          refine va_put (D := D) (ci := 8) (v := .int (iI (pl9 + 1))) (ty := .int) (C := RX8) (T := TX8) (N := 6) hx hb hts UX8 tyX8 tyX8_ok nmX8 hown hK hP hD hS 0 rfl rfl 2 (by decide) L23 (fun _ h9 => h9) rfl rfl rfl rfl (Nat.le_of_ble_eq_true rfl) dX8_next_34 (fun H locs hP hD hS => ?_)
          have hP : va_P D vwCl [(h0, .inr (8, [.ref h1, .int (iI (tn)), .int (iI (pl9 + 1)), .int (iI (fi)), .int (iI (so)), .int (iI (va))])), (h1, .inl (cI, 300, .inl (aI tb)))] H := hP
          have hD : va_D A [(h0, .inr (8, [.ref h1, .int (iI (tn)), .int (iI (pl9 + 1)), .int (iI (fi)), .int (iI (so)), .int (iI (va))])), (h1, .inl (cI, 300, .inl (aI tb)))] := hD
          refine lv_goto (tgt := 0) hx hb dX8_next_37 (by decide) ?_
          exact ih_0 ((pl9 + 1)) (m9 - 1) (by have hss := skB_s (tb := tb) (tn := tn) (p := pl9) (m := m9) ⟨by omega, by omega⟩ hi2; exact ⟨hss.1.trans hi1, hss.2, by omega, by omega⟩) (by omega) H locs hP hD hS ls (lv_sub hl [0] rfl)
  exact loop_0 _ pl 300 (by exact ⟨rfl, by omega, by omega, by omega⟩) (Nat.lt_succ_self _) s.heap [] hP hD hS ls (lv_sub hl [0] rfl)
theorem hsX8_next : yX8_next.cls ≠ "java/lang/invoke/MethodHandle" ∧ yX8_next.cls ≠ "java/lang/invoke/VarHandle" ∧ (parseMethodDescriptor yX8_next.desc).map (fun d => d.parameters.length) = some 0 := by decide +kernel
theorem hvX8_next : yX8_next.cls = RX8 ∧ yX8_next.cls ≠ "java/lang/invoke/MethodHandle" ∧ yX8_next.cls ≠ "java/lang/invoke/VarHandle" ∧ (parseMethodDescriptor yX8_next.desc).map (fun d => d.parameters.length) = some 0 := ⟨rfl, hsX8_next⟩
abbrev rmX8_rewind : Room := { frames := 7, cells := 0, slots := 0, locals := 149 }
set_option maxHeartbeats 4000000 in
set_option maxRecDepth 100000 in
theorem c_X8_rewind (l : Launch) (D : va_G) (cI cZ : ClassId) (z : jZT) (h0 h1 : Nat) (tn pl fi so va : Int) (tb : Int → Int) (hTx : TxtI tb tn) : jMu (S := Int × Int × Int × Int) l yX8_rewind wsX8_rewind rmX8_rewind [.ref h0] D cI cZ z [(h0, .inr (8, [.ref h1, .int (iI (tn)), .int (iI (pl)), .int (iI (fi)), .int (iI (so)), .int (iI (va))])), (h1, .inl (cI, 300, .inl (aI tb)))] (fun u => none) (fun u => u.2.1 = tkF tb tn 0 ∧ u.2.2.1 = tkS tb tn 0 ∧ u.1 = tkE tb tn 0 ∧ (u.2.2.1 = 1 ∨ u.2.2.1 = 2 → u.2.2.2 = tkV tb tn 0)) (fun u => [(h0, .inr (8, [.ref h1, .int (iI (tn)), .int (iI (u.1)), .int (iI (u.2.1)), .int (iI (u.2.2.1)), .int (iI (u.2.2.2))])), (h1, .inl (cI, 300, .inl (aI tb)))]) := by
  refine jMu_of (cc := cX8_rewind) (n := 1) (ret := none) (by decide) rfl (Nat.le_of_ble_eq_true rfl) ?_
  intro p e s m below meth c A ls args Q hQ F hA hZ hP hK hD hS hl
  obtain ⟨hx, hb, hr, hml, hown, hts, hlocks⟩ := F
  have hown : s.vm.findClass RX8 = some m.cls := hown
  have hl : lv_has ls 1 [(0, .ref h0)] := hl
  have L23 := hts (.fieldLink RX8 23 "TinMouse$Text" "place" "I") (by decide +kernel)
  have UX8 : ∀ w ∈ wsX80, w ∈ wsX8_rewind := fun w h => List.mem_cons_of_mem _ (List.mem_append_right _ h)
  have htn := hTx.1
  refine lv_aload_n hx hb dX8_rewind_0 rfl (lv_at hl 0 rfl) ?_
  refine lv_iconst (v := iI (0)) hx hb dX8_rewind_1 rfl ?_
  refine va_put (D := D) (ci := 8) (v := .int (iI (0))) (ty := .int) (C := RX8) (T := TX8) (N := 6) hx hb hts UX8 tyX8 tyX8_ok nmX8 hown hK hP hD hS 0 rfl rfl 2 (by decide) L23 (fun _ h9 => h9) rfl rfl rfl rfl (Nat.le_of_ble_eq_true rfl) dX8_rewind_2 (fun H locs hP hD hS => ?_)
  have hP : va_P D vwCl [(h0, .inr (8, [.ref h1, .int (iI (tn)), .int (iI (0)), .int (iI (fi)), .int (iI (so)), .int (iI (va))])), (h1, .inl (cI, 300, .inl (aI tb)))] H := hP
  have hD : va_D A [(h0, .inr (8, [.ref h1, .int (iI (tn)), .int (iI (0)), .int (iI (fi)), .int (iI (so)), .int (iI (va))])), (h1, .inl (cI, 300, .inl (aI tb)))] := hD
  refine lv_aload_n hx hb dX8_rewind_5 rfl (lv_at hl 0 rfl) ?_
  refine j_muv (va_runV (As := []) (rest := []) ⟨hx, hb, hml, hown, hts⟩ (c_X8_next l D cI cZ z h0 h1 tn 0 fi so va tb (by first | assumption | omega) (by first | assumption | omega) H.size) (cwV 0 hts gX8_rewind_X8_next rfl rfl rfl hvX8_next ⟨Nat.le_of_ble_eq_true rfl, Nat.le_of_ble_eq_true rfl⟩) (j_preV hP hD hK hS hZ hA [0, 1] rfl rfl 0 rfl rfl) rfl rfl hl.1 rfl (lv_room (Nat.le_of_ble_eq_true rfl)) dX8_rewind_6 ⟨Nat.zero_le _, Nat.zero_le _⟩) hP hD hS hA [0, 1] rfl (fun _ => rfl) (fun u_9 H locs hw_6 hP hD hS => ?_)
  obtain ⟨pl2_1, fi2_2, so2_3, va2_4⟩ := u_9
  dsimp only at hw_6
  have hP : va_P D vwCl [(h0, .inr (8, [.ref h1, .int (iI (tn)), .int (iI (pl2_1)), .int (iI (fi2_2)), .int (iI (so2_3)), .int (iI (va2_4))])), (h1, .inl (cI, 300, .inl (aI tb)))] H := hP
  have hD : va_D A [(h0, .inr (8, [.ref h1, .int (iI (tn)), .int (iI (pl2_1)), .int (iI (fi2_2)), .int (iI (so2_3)), .int (iI (va2_4))])), (h1, .inl (cI, 300, .inl (aI tb)))] := hD
  rw [hQ]; exact jm_vret (pl2_1, fi2_2, so2_3, va2_4) hx hb hr hlocks hS hP rfl (by (try dsimp only); exact hw_6) dX8_rewind_9
