abbrev rmJ3_checkIndex_8e157N : Room := { frames := 0, cells := 0, slots := 0, locals := 0 }
set_option maxHeartbeats 4000000 in
set_option maxRecDepth 100000 in
theorem c_J3_checkIndex_8e157N (l : Launch) (D : va_G) (cI cZ : ClassId) (z : jZT) (i n9 : Int) (hi : 0 ≤ i ∧ i < n9) (hn9 : n9 < 2147483648) : jRd l yJ3_checkIndex_8e157 wsJ3_checkIndex_8e157 rmJ3_checkIndex_8e157N [.int (iI (i)), .int (iI (n9)), .null] D cI cZ z [] (some (.int (iI (i)))) := by
  refine jRd_of (cc := cJ3_checkIndex_8e157) (n := 3) (ret := (some .int)) (by decide) rfl (Nat.le_of_ble_eq_true rfl) ?_
  intro p e s m below meth c A ls args Q hQ F hA hZ hP hK hD hS hl
  obtain ⟨hx, hb, hr, hml, hown, hts, hlocks⟩ := F
  have hown : s.vm.findClass RJ3 = some m.cls := hown
  have hl : lv_has ls 3 [(0, .int (iI (i))), (1, .int (iI (n9))), (2, .null)] := hl
  refine lv_iload_n hx hb dJ3_checkIndex_8e157_0 rfl (lv_at hl 0 rfl) ?_
  refine j_if_lt (tgt := 9) hx hb (by omega) dJ3_checkIndex_8e157_1 (by decide) (fun c_1 => ?_) (fun c_1 => ?_)
  · exact False.elim (by omega)
  · refine lv_iload_n hx hb dJ3_checkIndex_8e157_4 rfl (lv_at hl 0 rfl) ?_
    refine lv_iload_n hx hb dJ3_checkIndex_8e157_5 rfl (lv_at hl 1 rfl) ?_
    refine j_icmp_lt (tgt := 16) hx hb (by omega) dJ3_checkIndex_8e157_6 (by decide) (fun c_6 => ?_) (fun c_6 => ?_)
    · refine lv_iload_n hx hb dJ3_checkIndex_8e157_16 rfl (lv_at hl 0 rfl) ?_
      rw [hQ]; exact jr_iret hx hb hr hlocks rfl dJ3_checkIndex_8e157_17
    · exact False.elim (by omega)
abbrev rmJ3_checkIndex_8e157R : Room := { frames := 0, cells := 0, slots := 0, locals := 0 }
set_option maxHeartbeats 4000000 in
set_option maxRecDepth 100000 in
theorem c_J3_checkIndex_8e157R (l : Launch) (D : va_G) (cI cZ : ClassId) (z : jZT) (q0 : Nat) (i n9 : Int) (hi : 0 ≤ i ∧ i < n9) (hn9 : n9 < 2147483648) : jRd l yJ3_checkIndex_8e157 wsJ3_checkIndex_8e157 rmJ3_checkIndex_8e157R [.int (iI (i)), .int (iI (n9)), .ref q0] D cI cZ z [] (some (.int (iI (i)))) := by
  refine jRd_of (cc := cJ3_checkIndex_8e157) (n := 3) (ret := (some .int)) (by decide) rfl (Nat.le_of_ble_eq_true rfl) ?_
  intro p e s m below meth c A ls args Q hQ F hA hZ hP hK hD hS hl
  obtain ⟨hx, hb, hr, hml, hown, hts, hlocks⟩ := F
  have hown : s.vm.findClass RJ3 = some m.cls := hown
  have hl : lv_has ls 3 [(0, .int (iI (i))), (1, .int (iI (n9))), (2, .ref q0)] := hl
  refine lv_iload_n hx hb dJ3_checkIndex_8e157_0 rfl (lv_at hl 0 rfl) ?_
  refine j_if_lt (tgt := 9) hx hb (by omega) dJ3_checkIndex_8e157_1 (by decide) (fun c_1 => ?_) (fun c_1 => ?_)
  · exact False.elim (by omega)
  · refine lv_iload_n hx hb dJ3_checkIndex_8e157_4 rfl (lv_at hl 0 rfl) ?_
    refine lv_iload_n hx hb dJ3_checkIndex_8e157_5 rfl (lv_at hl 1 rfl) ?_
    refine j_icmp_lt (tgt := 16) hx hb (by omega) dJ3_checkIndex_8e157_6 (by decide) (fun c_6 => ?_) (fun c_6 => ?_)
    · refine lv_iload_n hx hb dJ3_checkIndex_8e157_16 rfl (lv_at hl 0 rfl) ?_
      rw [hQ]; exact jr_iret hx hb hr hlocks rfl dJ3_checkIndex_8e157_17
    · exact False.elim (by omega)
theorem hsJ3_checkIndex_8e157 : yJ3_checkIndex_8e157.cls ≠ "java/lang/invoke/MethodHandle" ∧ yJ3_checkIndex_8e157.cls ≠ "java/lang/invoke/VarHandle" ∧ (parseMethodDescriptor yJ3_checkIndex_8e157.desc).map (fun d => d.parameters.length) = some 3 := by decide +kernel
theorem hvJ3_checkIndex_8e157 : yJ3_checkIndex_8e157.cls = RJ3 ∧ yJ3_checkIndex_8e157.cls ≠ "java/lang/invoke/MethodHandle" ∧ yJ3_checkIndex_8e157.cls ≠ "java/lang/invoke/VarHandle" ∧ (parseMethodDescriptor yJ3_checkIndex_8e157.desc).map (fun d => d.parameters.length) = some 3 := ⟨rfl, hsJ3_checkIndex_8e157⟩
abbrev rmJ0_checkIndex_df160 : Room := { frames := 1, cells := 0, slots := 0, locals := 22 }
set_option maxHeartbeats 4000000 in
set_option maxRecDepth 100000 in
theorem c_J0_checkIndex_df160 (l : Launch) (D : va_G) (cI cZ : ClassId) (z : jZT) (i n9 : Int) (hi : 0 ≤ i ∧ i < n9) (hn9 : n9 < 2147483648) : jRd l yJ0_checkIndex_df160 wsJ0_checkIndex_df160 rmJ0_checkIndex_df160 [.int (iI (i)), .int (iI (n9))] D cI cZ z [] none := by
  refine jRd_of (cc := cJ0_checkIndex_df160) (n := 2) (ret := none) (by decide) rfl (Nat.le_of_ble_eq_true rfl) ?_
  intro p e s m below meth c A ls args Q hQ F hA hZ hP hK hD hS hl
  obtain ⟨hx, hb, hr, hml, hown, hts, hlocks⟩ := F
  have hown : s.vm.findClass RJ0 = some m.cls := hown
  have hl : lv_has ls 2 [(0, .int (iI (i))), (1, .int (iI (n9)))] := hl
  have L1053 := hts (.fieldLink RJ0 1053 "jdk/internal/util/Preconditions" "SIOOBE_FORMATTER" "Ljava/util/function/BiFunction;") (by decide +kernel)
  refine lv_iload_n hx hb dJ0_checkIndex_df160_0 rfl (lv_at hl 0 rfl) ?_
  refine lv_iload_n hx hb dJ0_checkIndex_df160_1 rfl (lv_at hl 1 rfl) ?_
  rcases hZ.2.2.1.2 with h91 | ⟨t91, h91⟩
  · refine va_gets hx hb h91 hS hown L1053 (fun _ h9 => h9) dJ0_checkIndex_df160_2 ?_
    refine j_rd (va_runS (As := [.int (iI (i)), .int (iI (n9)), .null]) (rest := []) ⟨hx, hb, hml, hown, hts⟩ (c_J3_checkIndex_8e157N l D cI cZ z i n9 (by first | assumption | omega) (by first | assumption | omega) s.heap.size) (va_cwS 3 hts gJ0_checkIndex_df160_J3_checkIndex_8e157 rfl rfl rfl hsJ3_checkIndex_8e157 ⟨Nat.le_of_ble_eq_true rfl, Nat.le_of_ble_eq_true rfl⟩) (j_preS hP hD hK hS hZ hA [] rfl rfl) rfl rfl hl.1 rfl (lv_room (Nat.le_of_ble_eq_true rfl)) dJ0_checkIndex_df160_5 ⟨Nat.zero_le _, Nat.zero_le _⟩) ?_
    refine lv_pop hx hb dJ0_checkIndex_df160_8 rfl ?_
    rw [hQ]; exact jr_vret hx hb hr hlocks rfl dJ0_checkIndex_df160_9
  · refine va_gets hx hb h91 hS hown L1053 (fun _ h9 => h9) dJ0_checkIndex_df160_2 ?_
    refine j_rd (va_runS (As := [.int (iI (i)), .int (iI (n9)), .ref t91]) (rest := []) ⟨hx, hb, hml, hown, hts⟩ (c_J3_checkIndex_8e157R l D cI cZ z t91 i n9 (by first | assumption | omega) (by first | assumption | omega) s.heap.size) (va_cwS 3 hts gJ0_checkIndex_df160_J3_checkIndex_8e157 rfl rfl rfl hsJ3_checkIndex_8e157 ⟨Nat.le_of_ble_eq_true rfl, Nat.le_of_ble_eq_true rfl⟩) (j_preS hP hD hK hS hZ hA [] rfl rfl) rfl rfl hl.1 rfl (lv_room (Nat.le_of_ble_eq_true rfl)) dJ0_checkIndex_df160_5 ⟨Nat.zero_le _, Nat.zero_le _⟩) ?_
    refine lv_pop hx hb dJ0_checkIndex_df160_8 rfl ?_
    rw [hQ]; exact jr_vret hx hb hr hlocks rfl dJ0_checkIndex_df160_9
abbrev rmJ0_coder_7d493 : Room := { frames := 0, cells := 0, slots := 0, locals := 0 }
set_option maxHeartbeats 4000000 in
set_option maxRecDepth 100000 in
theorem c_J0_coder_7d493 (l : Launch) (D : va_G) (cI cZ : ClassId) (z : jZT) (j9 : Nat) (hj : j9 < 6) : jRd l yJ0_coder_7d493 wsJ0_coder_7d493 rmJ0_coder_7d493 [.ref ((z.2.2.1 j9))] D cI cZ z [] (some (.int (iI (0)))) := by
  refine jRd_of (cc := cJ0_coder_7d493) (n := 1) (ret := (some .byte)) (by decide) rfl (Nat.le_of_ble_eq_true rfl) ?_
  intro p e s m below meth c A ls args Q hQ F hA hZ hP hK hD hS hl
  obtain ⟨hx, hb, hr, hml, hown, hts, hlocks⟩ := F
  have hown : s.vm.findClass RJ0 = some m.cls := hown
  have hl : lv_has ls 1 [(0, .ref ((z.2.2.1 j9)))] := hl
  have L38 := hts (.fieldLink RJ0 38 "java/lang/String" "COMPACT_STRINGS" "Z") (by decide +kernel)
  have L15 := hts (.fieldLink RJ0 15 "java/lang/String" "coder" "B") (by decide +kernel)
  refine va_gets hx hb hZ.2.2.1.1 hS hown L38 (fun _ h9 => h9) dJ0_coder_7d493_0 ?_
  rw [show (Value.int 1) = .int (iI 1) from rfl]
  refine j_if_eq (tgt := 13) hx hb (by omega) dJ0_coder_7d493_3 (by decide) (fun c_3 => ?_) (fun c_3 => ?_)
  · exact False.elim (by omega)
  · refine lv_aload_n hx hb dJ0_coder_7d493_6 rfl (lv_at hl 0 rfl) ?_
    refine vk_getf hx hb (hZ.2.2.2.1.1.1 j9 hj).2.1 hS hown L15 (fun _ h9 => h9) dJ0_coder_7d493_7 ?_
    rw [show (Value.int 0) = .int (iI 0) from rfl]
    refine lv_goto (tgt := 14) hx hb dJ0_coder_7d493_10 (by decide) ?_
    rw [hQ]; exact jr_zret hx hb hr hlocks (by rfl) rfl dJ0_coder_7d493_14
abbrev rmJ0_isLatin1_aae02 : Room := { frames := 0, cells := 0, slots := 0, locals := 0 }
set_option maxHeartbeats 4000000 in
set_option maxRecDepth 100000 in
theorem c_J0_isLatin1_aae02 (l : Launch) (D : va_G) (cI cZ : ClassId) (z : jZT) (j9 : Nat) (hj : j9 < 6) : jRd l yJ0_isLatin1_aae02 wsJ0_isLatin1_aae02 rmJ0_isLatin1_aae02 [.ref ((z.2.2.1 j9))] D cI cZ z [] (some (.int (iI (1)))) := by
  refine jRd_of (cc := cJ0_isLatin1_aae02) (n := 1) (ret := (some .boolean)) (by decide) rfl (Nat.le_of_ble_eq_true rfl) ?_
  intro p e s m below meth c A ls args Q hQ F hA hZ hP hK hD hS hl
  obtain ⟨hx, hb, hr, hml, hown, hts, hlocks⟩ := F
  have hown : s.vm.findClass RJ0 = some m.cls := hown
  have hl : lv_has ls 1 [(0, .ref ((z.2.2.1 j9)))] := hl
  have L38 := hts (.fieldLink RJ0 38 "java/lang/String" "COMPACT_STRINGS" "Z") (by decide +kernel)
  have L15 := hts (.fieldLink RJ0 15 "java/lang/String" "coder" "B") (by decide +kernel)
  refine va_gets hx hb hZ.2.2.1.1 hS hown L38 (fun _ h9 => h9) dJ0_isLatin1_aae02_0 ?_
  rw [show (Value.int 1) = .int (iI 1) from rfl]
  refine j_if_eq (tgt := 17) hx hb (by omega) dJ0_isLatin1_aae02_3 (by decide) (fun c_3 => ?_) (fun c_3 => ?_)
  · exact False.elim (by omega)
  · refine lv_aload_n hx hb dJ0_isLatin1_aae02_6 rfl (lv_at hl 0 rfl) ?_
    refine vk_getf hx hb (hZ.2.2.2.1.1.1 j9 hj).2.1 hS hown L15 (fun _ h9 => h9) dJ0_isLatin1_aae02_7 ?_
    rw [show (Value.int 0) = .int (iI 0) from rfl]
    refine j_if_ne (tgt := 17) hx hb (by omega) dJ0_isLatin1_aae02_10 (by decide) (fun c_10 => ?_) (fun c_10 => ?_)
    · exact False.elim (by omega)
    · refine lv_iconst (v := iI (1)) hx hb dJ0_isLatin1_aae02_13 rfl ?_
      refine lv_goto (tgt := 18) hx hb dJ0_isLatin1_aae02_14 (by decide) ?_
      rw [hQ]; exact jr_zret hx hb hr hlocks jn_1 rfl dJ0_isLatin1_aae02_18
theorem hsJ0_coder_7d493 : yJ0_coder_7d493.cls ≠ "java/lang/invoke/MethodHandle" ∧ yJ0_coder_7d493.cls ≠ "java/lang/invoke/VarHandle" ∧ (parseMethodDescriptor yJ0_coder_7d493.desc).map (fun d => d.parameters.length) = some 0 := by decide +kernel
theorem hvJ0_coder_7d493 : yJ0_coder_7d493.cls = RJ0 ∧ yJ0_coder_7d493.cls ≠ "java/lang/invoke/MethodHandle" ∧ yJ0_coder_7d493.cls ≠ "java/lang/invoke/VarHandle" ∧ (parseMethodDescriptor yJ0_coder_7d493.desc).map (fun d => d.parameters.length) = some 0 := ⟨rfl, hsJ0_coder_7d493⟩
abbrev rmJ0_length_8abf5 : Room := { frames := 1, cells := 0, slots := 0, locals := 20 }
set_option maxHeartbeats 4000000 in
set_option maxRecDepth 100000 in
theorem c_J0_length_8abf5 (l : Launch) (D : va_G) (cI cZ : ClassId) (z : jZT) (j9 : Nat) (hj : j9 < 6) : jRd l yJ0_length_8abf5 wsJ0_length_8abf5 rmJ0_length_8abf5 [.ref ((z.2.2.1 j9))] D cI cZ z [] (some (.int (iI (jle j9)))) := by
  refine jRd_of (cc := cJ0_length_8abf5) (n := 1) (ret := (some .int)) (by decide) rfl (Nat.le_of_ble_eq_true rfl) ?_
  intro p e s m below meth c A ls args Q hQ F hA hZ hP hK hD hS hl
  obtain ⟨hx, hb, hr, hml, hown, hts, hlocks⟩ := F
  have hown : s.vm.findClass RJ0 = some m.cls := hown
  have hl : lv_has ls 1 [(0, .ref ((z.2.2.1 j9)))] := hl
  have L9 := hts (.fieldLink RJ0 9 "java/lang/String" "value" "[B") (by decide +kernel)
  refine lv_aload_n hx hb dJ0_length_8abf5_0 rfl (lv_at hl 0 rfl) ?_
  refine vk_getf hx hb (hZ.2.2.2.1.1.1 j9 hj).2.2.1 hS hown L9 (fun _ h9 => h9) dJ0_length_8abf5_1 ?_
  refine j_tlen hx hb (hZ.2.2.2.1.1.1 j9 hj).2.2.2 hS dJ0_length_8abf5_4 ?_
  rw [show (((jSl.getD j9 0 : Nat) : Int)) = jle j9 from rfl]
  refine lv_aload_n hx hb dJ0_length_8abf5_5 rfl (lv_at hl 0 rfl) ?_
  refine j_rd (va_runV (As := []) (rest := [.int (iI (jle j9))]) ⟨hx, hb, hml, hown, hts⟩ (c_J0_coder_7d493 l D cI cZ z j9 (by first | assumption | omega) s.heap.size) (cwV 0 hts gJ0_length_8abf5_J0_coder_7d493 rfl rfl rfl hvJ0_coder_7d493 ⟨Nat.le_of_ble_eq_true rfl, Nat.le_of_ble_eq_true rfl⟩) ⟨jPre_blind, vk_recv hZ.2.2.2.1.1 (by first | assumption | omega) hS, (j_preS hP hD hK hS hZ hA [] rfl rfl).2⟩ rfl rfl hl.1 rfl (lv_room (Nat.le_of_ble_eq_true rfl)) dJ0_length_8abf5_6 ⟨Nat.zero_le _, Nat.zero_le _⟩) ?_
  refine j_shr0 hx hb dJ0_length_8abf5_9 ?_
  rw [hQ]; exact jr_iret hx hb hr hlocks (jo_i (by rfl)) dJ0_length_8abf5_10
theorem hsJ0_checkIndex_df160 : yJ0_checkIndex_df160.cls ≠ "java/lang/invoke/MethodHandle" ∧ yJ0_checkIndex_df160.cls ≠ "java/lang/invoke/VarHandle" ∧ (parseMethodDescriptor yJ0_checkIndex_df160.desc).map (fun d => d.parameters.length) = some 2 := by decide +kernel
theorem hvJ0_checkIndex_df160 : yJ0_checkIndex_df160.cls = RJ0 ∧ yJ0_checkIndex_df160.cls ≠ "java/lang/invoke/MethodHandle" ∧ yJ0_checkIndex_df160.cls ≠ "java/lang/invoke/VarHandle" ∧ (parseMethodDescriptor yJ0_checkIndex_df160.desc).map (fun d => d.parameters.length) = some 2 := ⟨rfl, hsJ0_checkIndex_df160⟩
abbrev rmJ1_charAt_3b067 : Room := { frames := 2, cells := 0, slots := 0, locals := 43 }
set_option maxHeartbeats 4000000 in
set_option maxRecDepth 100000 in
theorem c_J1_charAt_3b067 (l : Launch) (D : va_G) (cI cZ : ClassId) (z : jZT) (i : Int) (j9 : Nat) (hj : j9 < 6) (hi : 0 ≤ i ∧ i < jle j9) : jRd l yJ1_charAt_3b067 wsJ1_charAt_3b067 rmJ1_charAt_3b067 [.ref ((z.2.2.2 j9)), .int (iI (i))] D cI cZ z [] (some (.int (iI (jch j9 i)))) := by
  refine jRd_of (cc := cJ1_charAt_3b067) (n := 2) (ret := (some .char)) (by decide) rfl (Nat.le_of_ble_eq_true rfl) ?_
  intro p e s m below meth c A ls args Q hQ F hA hZ hP hK hD hS hl
  obtain ⟨hx, hb, hr, hml, hown, hts, hlocks⟩ := F
  have hown : s.vm.findClass RJ1 = some m.cls := hown
  have hl : lv_has ls 2 [(0, .ref ((z.2.2.2 j9))), (1, .int (iI (i)))] := hl
  have hjl := jle_rng j9 hj
  refine lv_iload_n hx hb dJ1_charAt_3b067_0 rfl (lv_at hl 1 rfl) ?_
  refine lv_aload_n hx hb dJ1_charAt_3b067_1 rfl (lv_at hl 0 rfl) ?_
  refine j_tlen hx hb (hZ.2.2.2.1.1.1 j9 hj).2.2.2 hS dJ1_charAt_3b067_2 ?_
  rw [show (((jSl.getD j9 0 : Nat) : Int)) = jle j9 from rfl]
  refine j_rdv (va_runS (As := [.int (iI (i)), .int (iI (jle j9))]) (rest := []) ⟨hx, hb, hml, hown, hts⟩ (c_J0_checkIndex_df160 l D cI cZ z i (jle j9) (by first | assumption | omega) (by first | assumption | omega) s.heap.size) (va_cwS 2 hts gJ1_charAt_3b067_J0_checkIndex_df160 rfl rfl rfl hsJ0_checkIndex_df160 ⟨Nat.le_of_ble_eq_true rfl, Nat.le_of_ble_eq_true rfl⟩) (j_preS hP hD hK hS hZ hA [] rfl rfl) rfl rfl hl.1 rfl (lv_room (Nat.le_of_ble_eq_true rfl)) dJ1_charAt_3b067_3 ⟨Nat.zero_le _, Nat.zero_le _⟩) ?_
  refine lv_aload_n hx hb dJ1_charAt_3b067_6 rfl (lv_at hl 0 rfl) ?_
  refine lv_iload_n hx hb dJ1_charAt_3b067_7 rfl (lv_at hl 1 rfl) ?_
  refine j_tb hx hb (hZ.2.2.2.1.1.1 j9 hj).2.2.2 hS (by have q9 : ((jSl.getD j9 0 : Nat) : Int) = jle j9 := rfl; omega) dJ1_charAt_3b067_8 ?_
  refine lv_sipush (v := iI (255)) hx hb dJ1_charAt_3b067_9 (by decide) ?_
  refine lv_iand hx hb dJ1_charAt_3b067_12 ?_
  rw [jch_and hj (by omega)]
  refine lv_i2c (v := iI (jch j9 i)) hx hb dJ1_charAt_3b067_13 (jch_c hj (by omega)) ?_
  rw [hQ]; exact jr_zret hx hb hr hlocks (by exact jch_n hj (by omega)) rfl dJ1_charAt_3b067_14
theorem hsJ0_isLatin1_aae02 : yJ0_isLatin1_aae02.cls ≠ "java/lang/invoke/MethodHandle" ∧ yJ0_isLatin1_aae02.cls ≠ "java/lang/invoke/VarHandle" ∧ (parseMethodDescriptor yJ0_isLatin1_aae02.desc).map (fun d => d.parameters.length) = some 0 := by decide +kernel
theorem hvJ0_isLatin1_aae02 : yJ0_isLatin1_aae02.cls = RJ0 ∧ yJ0_isLatin1_aae02.cls ≠ "java/lang/invoke/MethodHandle" ∧ yJ0_isLatin1_aae02.cls ≠ "java/lang/invoke/VarHandle" ∧ (parseMethodDescriptor yJ0_isLatin1_aae02.desc).map (fun d => d.parameters.length) = some 0 := ⟨rfl, hsJ0_isLatin1_aae02⟩
theorem hsJ1_charAt_3b067 : yJ1_charAt_3b067.cls ≠ "java/lang/invoke/MethodHandle" ∧ yJ1_charAt_3b067.cls ≠ "java/lang/invoke/VarHandle" ∧ (parseMethodDescriptor yJ1_charAt_3b067.desc).map (fun d => d.parameters.length) = some 2 := by decide +kernel
theorem hvJ1_charAt_3b067 : yJ1_charAt_3b067.cls = RJ1 ∧ yJ1_charAt_3b067.cls ≠ "java/lang/invoke/MethodHandle" ∧ yJ1_charAt_3b067.cls ≠ "java/lang/invoke/VarHandle" ∧ (parseMethodDescriptor yJ1_charAt_3b067.desc).map (fun d => d.parameters.length) = some 2 := ⟨rfl, hsJ1_charAt_3b067⟩
abbrev rmJ0_charAt_5068e : Room := { frames := 3, cells := 0, slots := 0, locals := 64 }
set_option maxHeartbeats 4000000 in
set_option maxRecDepth 100000 in
theorem c_J0_charAt_5068e (l : Launch) (D : va_G) (cI cZ : ClassId) (z : jZT) (i : Int) (j9 : Nat) (hj : j9 < 6) (hi : 0 ≤ i ∧ i < jle j9) : jRd l yJ0_charAt_5068e wsJ0_charAt_5068e rmJ0_charAt_5068e [.ref ((z.2.2.1 j9)), .int (iI (i))] D cI cZ z [] (some (.int (iI (jch j9 i)))) := by
  refine jRd_of (cc := cJ0_charAt_5068e) (n := 2) (ret := (some .char)) (by decide) rfl (Nat.le_of_ble_eq_true rfl) ?_
  intro p e s m below meth c A ls args Q hQ F hA hZ hP hK hD hS hl
  obtain ⟨hx, hb, hr, hml, hown, hts, hlocks⟩ := F
  have hown : s.vm.findClass RJ0 = some m.cls := hown
  have hl : lv_has ls 2 [(0, .ref ((z.2.2.1 j9))), (1, .int (iI (i)))] := hl
  have L9 := hts (.fieldLink RJ0 9 "java/lang/String" "value" "[B") (by decide +kernel)
  have hjl := jle_rng j9 hj
  refine lv_aload_n hx hb dJ0_charAt_5068e_0 rfl (lv_at hl 0 rfl) ?_
  refine j_rd (va_runV (As := []) (rest := []) ⟨hx, hb, hml, hown, hts⟩ (c_J0_isLatin1_aae02 l D cI cZ z j9 (by first | assumption | omega) s.heap.size) (cwV 0 hts gJ0_charAt_5068e_J0_isLatin1_aae02 rfl rfl rfl hvJ0_isLatin1_aae02 ⟨Nat.le_of_ble_eq_true rfl, Nat.le_of_ble_eq_true rfl⟩) ⟨jPre_blind, vk_recv hZ.2.2.2.1.1 (by first | assumption | omega) hS, (j_preS hP hD hK hS hZ hA [] rfl rfl).2⟩ rfl rfl hl.1 rfl (lv_room (Nat.le_of_ble_eq_true rfl)) dJ0_charAt_5068e_1 ⟨Nat.zero_le _, Nat.zero_le _⟩) ?_
  refine j_if_eq (tgt := 16) hx hb (by omega) dJ0_charAt_5068e_4 (by decide) (fun c_4 => ?_) (fun c_4 => ?_)
  · exact False.elim (by omega)
  · refine lv_aload_n hx hb dJ0_charAt_5068e_7 rfl (lv_at hl 0 rfl) ?_
    refine vk_getf hx hb (hZ.2.2.2.1.1.1 j9 hj).2.2.1 hS hown L9 (fun _ h9 => h9) dJ0_charAt_5068e_8 ?_
    refine lv_iload_n hx hb dJ0_charAt_5068e_11 rfl (lv_at hl 1 rfl) ?_
    refine j_rd (va_runS (As := [.ref ((z.2.2.2 j9)), .int (iI (i))]) (rest := []) ⟨hx, hb, hml, hown, hts⟩ (c_J1_charAt_3b067 l D cI cZ z i j9 (by first | assumption | omega) (by first | assumption | omega) s.heap.size) (va_cwS 2 hts gJ0_charAt_5068e_J1_charAt_3b067 rfl rfl rfl hsJ1_charAt_3b067 ⟨Nat.le_of_ble_eq_true rfl, Nat.le_of_ble_eq_true rfl⟩) (j_preS hP hD hK hS hZ hA [] rfl rfl) rfl rfl hl.1 rfl (lv_room (Nat.le_of_ble_eq_true rfl)) dJ0_charAt_5068e_12 ⟨Nat.zero_le _, Nat.zero_le _⟩) ?_
    rw [hQ]; exact jr_zret hx hb hr hlocks (by exact jch_n hj (by omega)) rfl dJ0_charAt_5068e_15
