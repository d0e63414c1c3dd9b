abbrev rmX10_fitsTracks : Room := { frames := 2, cells := 0, slots := 0, locals := 46 }
set_option maxHeartbeats 4000000 in
set_option maxRecDepth 100000 in
theorem c_X10_fitsTracks (l : Launch) (D : va_G) (cI cZ : ClassId) (z : jZT) (h0 h20 h21 h10 h12 h14 h15 h16 h8 h1 h6 h2 h3 h17 h18 h19 h11 h9 : Nat) (d tk9 lt tra Wi Hi bl sc sd no tu be sp ln wt wb : Int) (g tr9 a : Int → Int) (f : Int → Int) (N : Int) (hW : 3 ≤ Wi ∧ Wi ≤ 16) (hH : 3 ≤ Hi ∧ Hi ≤ 16) (hg : ∀ j : Int, 0 ≤ j → j < 256 → 0 ≤ g j ∧ g j ≤ 2) (hf : NxtI a wt wb f N) (hNN : N = 72 * (Wi * Hi)) (htk : 0 ≤ tk9 ∧ tk9 ≤ 16) (htr : ∀ j : Int, 0 ≤ j → j < tk9 → 0 ≤ tr9 j ∧ tr9 j < Wi * Hi) (hd : 0 ≤ d ∧ d < 8) : jRd l yX10_fitsTracks wsX10_fitsTracks rmX10_fitsTracks [.ref h0, .int (iI (d))] D cI cZ z [(h0, .inr (10, [.ref h20, .ref h21, .ref h10, .ref h12, .ref h14, .ref h15, .ref h16, .ref h8, .ref h1, .ref h6, .ref h2, .ref h3, .ref h17, .ref h18, .int (iI (tk9)), .ref h19, .int (iI (lt)), .long (lI (tra))])), (h10, .inr (7, [.ref h11, .int (iI (Wi)), .int (iI (Hi)), .int (iI (bl)), .int (iI (sc)), .int (iI (sd)), .int (iI (no)), .int (iI (tu)), .int (iI (be)), .int (iI (sp))])), (h11, .inl (cI, 256, .inl (aI g))), (h18, .inl (cI, 16, .inl (aI tr9))), (h8, .inr (9, [.ref h9, .int (iI (ln)), .int (iI (wt)), .int (iI (wb))])), (h9, .inl (cI, 2048, .inl (aI a)))] (some (.int (iI (bI (ftF f Wi Hi g tr9 tk9 d))))) := by
  refine jRd_of (cc := cX10_fitsTracks) (n := 5) (ret := (some .boolean)) (by decide) rfl (Nat.le_of_ble_eq_true rfl) ?_
  intro p e s m below meth c A ls args Q hQ F hA hZ hP hK hD hS hl
  obtain ⟨hx, hb, hr, hml, hown, hts, hlocks⟩ := F
  have hown : s.vm.findClass RX10 = some m.cls := hown
  have hl : lv_has ls 5 [(0, .ref h0), (1, .int (iI (d)))] := hl
  have L121 := hts (.fieldLink RX10 121 "TinMouse" "trackCount" "I") (by decide +kernel)
  have L93 := hts (.fieldLink RX10 93 "TinMouse" "tracks" "[I") (by decide +kernel)
  have L28 := hts (.fieldLink RX10 28 "TinMouse" "table" "LTinMouse$Table;") (by decide +kernel)
  have L55 := hts (.fieldLink RX10 55 "TinMouse" "ways" "LTinMouse$Ways;") (by decide +kernel)
  have UX10 : ∀ w ∈ wsX100, w ∈ wsX10_fitsTracks := fun w h => List.mem_cons_of_mem _ (List.mem_append_left _ (List.mem_append_left _ (List.mem_append_right _ h)))
  have hwh := wh_rng hW hH
  have hN := hf.2.1
  refine lv_aload_n hx hb dX10_fitsTracks_0 rfl (lv_at hl 0 rfl) ?_
  refine va_get (D := D) (ci := 10) (v := .int (iI (tk9))) (C := RX10) (T := TX10) (N := 18) hx hb hts UX10 hown hK hP 0 rfl rfl 14 (by decide) L121 (fun _ h9 => h9) rfl dX10_fitsTracks_1 ?_
  refine lv_iconst (v := iI (2)) hx hb dX10_fitsTracks_4 rfl ?_
  refine j_icmp_ge (tgt := 10) hx hb (by omega) dX10_fitsTracks_5 (by decide) (fun c_5 => ?_) (fun c_5 => ?_)
  · have hr0 := htr 0 (by omega) (by omega)
    refine lv_aload_n hx hb dX10_fitsTracks_10 rfl (lv_at hl 0 rfl) ?_
    refine va_get (D := D) (ci := 10) (v := .ref h18) (C := RX10) (T := TX10) (N := 18) hx hb hts UX10 hown hK hP 0 rfl rfl 13 (by decide) L93 (fun _ h9 => h9) rfl dX10_fitsTracks_11 ?_
    refine lv_iconst (v := iI (0)) hx hb dX10_fitsTracks_14 rfl ?_
    refine j_rd (va_runS (As := [.ref h18, .int (iI (0))]) (rest := []) ⟨hx, hb, hml, hown, hts⟩ (c_X10_at l D cI cZ z h18 0 tr9 16 (by first | assumption | omega) (by first | assumption | omega) s.heap.size) (va_cwS 2 hts gX10_fitsTracks_X10_at rfl rfl rfl hsX10_at ⟨Nat.le_of_ble_eq_true rfl, Nat.le_of_ble_eq_true rfl⟩) (j_preS hP hD hK hS hZ hA [3] rfl rfl) rfl rfl hl.1 rfl (lv_room (Nat.le_of_ble_eq_true rfl)) dX10_fitsTracks_15 ⟨Nat.zero_le _, Nat.zero_le _⟩) ?_
    refine j_top (fun s0 es0 => ?_)
    rw [atI_in (by omega)] at es0
    subst es0
    refine lv_istore_n (lv' := [(2, .int (iI (((tr9 0))))), (0, .ref h0), (1, .int (iI (d)))]) hx hb dX10_fitsTracks_18 rfl hl (by decide) rfl (fun ls hl => ?_)
    refine lv_aload_n hx hb dX10_fitsTracks_19 rfl (lv_at hl 1 rfl) ?_
    refine va_get (D := D) (ci := 10) (v := .ref h10) (C := RX10) (T := TX10) (N := 18) hx hb hts UX10 hown hK hP 0 rfl rfl 2 (by decide) L28 (fun _ h9 => h9) rfl dX10_fitsTracks_20 ?_
    refine lv_iload_n hx hb dX10_fitsTracks_23 rfl (lv_at hl 0 rfl) ?_
    refine j_rd (va_runV (As := [.int (iI (((tr9 0))))]) (rest := []) ⟨hx, hb, hml, hown, hts⟩ (c_X7_isWood l D cI cZ z h10 h11 (((tr9 0))) Wi Hi bl sc sd no tu be sp g (by first | assumption | omega) (by first | assumption | omega) (by first | assumption | omega) (by first | assumption | omega) s.heap.size) (cwV 1 hts gX10_fitsTracks_X7_isWood rfl rfl rfl hvX7_isWood ⟨Nat.le_of_ble_eq_true rfl, Nat.le_of_ble_eq_true rfl⟩) (j_preV hP hD hK hS hZ hA [1, 2] rfl rfl 1 rfl rfl) rfl rfl hl.1 rfl (lv_room (Nat.le_of_ble_eq_true rfl)) dX10_fitsTracks_24 ⟨Nat.zero_le _, Nat.zero_le _⟩) ?_
    refine j_ifeq_b (tgt := 39) hx hb dX10_fitsTracks_27 (by decide) (fun c_27 => ?_) (fun c_27 => ?_)
    · refine lv_iconst (v := iI (-1)) hx hb dX10_fitsTracks_39 rfl ?_
      refine lv_istore_n (lv' := [(3, .int (iI (-1))), (2, .int (iI (((tr9 0))))), (0, .ref h0), (1, .int (iI (d)))]) hx hb dX10_fitsTracks_40 rfl hl (by decide) rfl (fun ls hl => ?_)
      refine lv_iconst (v := iI (1)) hx hb dX10_fitsTracks_41 rfl ?_
      refine lv_istore (lv' := [(4, .int (iI (1))), (3, .int (iI (-1))), (2, .int (iI (((tr9 0))))), (0, .ref h0), (1, .int (iI (d)))]) hx hb dX10_fitsTracks_42 hl (by decide) rfl (fun ls hl => ?_)
      have loop_44 : ∀ (fuel_44 : Nat) (st9 : Int) (i : Int) (k : Nat), ((i = (k : Int) + 1 ∧ i ≤ tk9) ∧ ((isWd Wi Hi g (tr9 0) = true ∧ st9 = itn f ((tr9 0 * 8 + d) * 9 + 0) k ∧ ftN f tr9 ((tr9 0 * 8 + d) * 9 + 0) (k + 1) = true ∧ 0 ≤ st9 ∧ st9 < N) ∨ (isWd Wi Hi g (tr9 0) = false ∧ st9 = -1))) → (tk9 - i).toNat < fuel_44 → ∀ ls : Array Slot, lv_has ls 5 [(0, .ref h0), (3, .int (iI (st9))), (4, .int (iI (i)))] → W p l e rmX10_fitsTracks s m args below meth c s.heap [] 0 0 Q (F0 m 44 ls []) := by
        intro fuel_44
        induction fuel_44 with
        | zero => intro st9 i k hI9 hm9; exact absurd hm9 (Nat.not_lt_zero _)
        | succ fuel_44 ih_44 =>
          intro st9 i k hI_44 hm_44 ls hl
          obtain ⟨hi1, hi2⟩ := hI_44
          refine lv_iload hx hb dX10_fitsTracks_44 (lv_at hl 2 rfl) ?_
          refine lv_aload_n hx hb dX10_fitsTracks_46 rfl (lv_at hl 0 rfl) ?_
          refine va_get (D := D) (ci := 10) (v := .int (iI (tk9))) (C := RX10) (T := TX10) (N := 18) hx hb hts UX10 hown hK hP 0 rfl rfl 14 (by decide) L121 (fun _ h9 => h9) rfl dX10_fitsTracks_47 ?_
          refine j_icmp_ge (tgt := 91) hx hb (by omega) dX10_fitsTracks_50 (by decide) (fun c_50 => ?_) (fun c_50 => ?_)
          · refine lv_iload_n hx hb dX10_fitsTracks_91 rfl (lv_at hl 1 rfl) ?_
            refine lv_iconst (v := iI (-1)) hx hb dX10_fitsTracks_92 rfl ?_
            refine j_icmp_eq (tgt := 100) hx hb (by omega) dX10_fitsTracks_93 (by decide) (fun c_93 => ?_) (fun c_93 => ?_)
            · refine lv_iconst (v := iI (0)) hx hb dX10_fitsTracks_100 rfl ?_
              rw [hQ]; exact jr_zret hx hb hr hlocks jn_0 (jo_i (by unfold ftF; rw [if_neg (by omega)]; rcases hi2 with ⟨hj1, hj2, hj3, hj4, hj5⟩ | ⟨hj1, hj2⟩; (first | (rw [hj1, show tk9.toNat = k + 1 by omega, hj3]; rfl) | exact False.elim (by omega)); (first | (rw [hj1, Bool.false_and]; rfl) | exact False.elim (by omega)))) dX10_fitsTracks_101
            · refine lv_iconst (v := iI (1)) hx hb dX10_fitsTracks_96 rfl ?_
              refine lv_goto (tgt := 101) hx hb dX10_fitsTracks_97 (by decide) ?_
              rw [hQ]; exact jr_zret hx hb hr hlocks jn_1 (jo_i (by unfold ftF; rw [if_neg (by omega)]; rcases hi2 with ⟨hj1, hj2, hj3, hj4, hj5⟩ | ⟨hj1, hj2⟩; (first | (rw [hj1, show tk9.toNat = k + 1 by omega, hj3]; rfl) | exact False.elim (by omega)); (first | (rw [hj1, Bool.false_and]; rfl) | exact False.elim (by omega)))) dX10_fitsTracks_101
          · refine lv_iload_n hx hb dX10_fitsTracks_53 rfl (lv_at hl 1 rfl) ?_
            refine lv_iconst (v := iI (-1)) hx hb dX10_fitsTracks_54 rfl ?_
            refine j_icmp_eq (tgt := 91) hx hb (by omega) dX10_fitsTracks_55 (by decide) (fun c_55 => ?_) (fun c_55 => ?_)
            · refine lv_iload_n hx hb dX10_fitsTracks_91 rfl (lv_at hl 1 rfl) ?_
              refine lv_iconst (v := iI (-1)) hx hb dX10_fitsTracks_92 rfl ?_
              refine j_icmp_eq (tgt := 100) hx hb (by omega) dX10_fitsTracks_93 (by decide) (fun c_93_1 => ?_) (fun c_93_1 => ?_)
              · refine lv_iconst (v := iI (0)) hx hb dX10_fitsTracks_100 rfl ?_
                rw [hQ]; exact jr_zret hx hb hr hlocks jn_0 (jo_i (by unfold ftF; rw [if_neg (by omega)]; rcases hi2 with ⟨hj1, hj2, hj3, hj4, hj5⟩ | ⟨hj1, hj2⟩; (first | (rw [hj1, show tk9.toNat = k + 1 by omega, hj3]; rfl) | exact False.elim (by omega)); (first | (rw [hj1, Bool.false_and]; rfl) | exact False.elim (by omega)))) dX10_fitsTracks_101
              · refine lv_iconst (v := iI (1)) hx hb dX10_fitsTracks_96 rfl ?_
                refine lv_goto (tgt := 101) hx hb dX10_fitsTracks_97 (by decide) ?_
                rw [hQ]; exact jr_zret hx hb hr hlocks jn_1 (jo_i (by unfold ftF; rw [if_neg (by omega)]; rcases hi2 with ⟨hj1, hj2, hj3, hj4, hj5⟩ | ⟨hj1, hj2⟩; (first | (rw [hj1, show tk9.toNat = k + 1 by omega, hj3]; rfl) | exact False.elim (by omega)); (first | (rw [hj1, Bool.false_and]; rfl) | exact False.elim (by omega)))) dX10_fitsTracks_101
            · refine lv_aload_n hx hb dX10_fitsTracks_58 rfl (lv_at hl 0 rfl) ?_
              refine va_get (D := D) (ci := 10) (v := .ref h8) (C := RX10) (T := TX10) (N := 18) hx hb hts UX10 hown hK hP 0 rfl rfl 7 (by decide) L55 (fun _ h9 => h9) rfl dX10_fitsTracks_59 ?_
              refine lv_iload_n hx hb dX10_fitsTracks_62 rfl (lv_at hl 1 rfl) ?_
              refine j_rd (va_runV (As := [.int (iI (st9))]) (rest := []) ⟨hx, hb, hml, hown, hts⟩ (c_X9_after l D cI cZ z h8 h9 st9 ln wt wb a f N (by first | assumption | omega) (by first | assumption | omega) s.heap.size) (cwV 1 hts gX10_fitsTracks_X9_after rfl rfl rfl hvX9_after ⟨Nat.le_of_ble_eq_true rfl, Nat.le_of_ble_eq_true rfl⟩) (j_preV hP hD hK hS hZ hA [4, 5] rfl rfl 4 rfl rfl) rfl rfl hl.1 rfl (lv_room (Nat.le_of_ble_eq_true rfl)) dX10_fitsTracks_63 ⟨Nat.zero_le _, Nat.zero_le _⟩) ?_
              refine lv_istore_n (lv' := [(3, .int (iI (f st9))), (0, .ref h0), (4, .int (iI (i)))]) hx hb dX10_fitsTracks_66 rfl hl (by decide) rfl (fun ls hl => ?_)
              have hfr := hf.2.2.2 st9 (by omega) (by omega)
              refine lv_iload_n hx hb dX10_fitsTracks_67 rfl (lv_at hl 0 rfl) ?_
              refine j_rd (va_runS (As := [.int (iI (f st9))]) (rest := []) ⟨hx, hb, hml, hown, hts⟩ (c_X10_cellOf l D cI cZ z (f st9) (by first | assumption | omega) s.heap.size) (va_cwS 1 hts gX10_fitsTracks_X10_cellOf rfl rfl rfl hsX10_cellOf ⟨Nat.le_of_ble_eq_true rfl, Nat.le_of_ble_eq_true rfl⟩) (j_preS hP hD hK hS hZ hA [] rfl rfl) rfl rfl hl.1 rfl (lv_room (Nat.le_of_ble_eq_true rfl)) dX10_fitsTracks_68 ⟨Nat.zero_le _, Nat.zero_le _⟩) ?_
              refine j_top (fun ck eck => ?_)
              refine lv_aload_n hx hb dX10_fitsTracks_71 rfl (lv_at hl 1 rfl) ?_
              refine va_get (D := D) (ci := 10) (v := .ref h18) (C := RX10) (T := TX10) (N := 18) hx hb hts UX10 hown hK hP 0 rfl rfl 13 (by decide) L93 (fun _ h9 => h9) rfl dX10_fitsTracks_72 ?_
              refine lv_iload hx hb dX10_fitsTracks_75 (lv_at hl 2 rfl) ?_
              have hri := htr i (by omega) (by omega)
              refine j_rd (va_runS (As := [.ref h18, .int (iI (i))]) (rest := [.int (iI (ck))]) ⟨hx, hb, hml, hown, hts⟩ (c_X10_at l D cI cZ z h18 i tr9 16 (by first | assumption | omega) (by first | assumption | omega) s.heap.size) (va_cwS 2 hts gX10_fitsTracks_X10_at rfl rfl rfl hsX10_at ⟨Nat.le_of_ble_eq_true rfl, Nat.le_of_ble_eq_true rfl⟩) (j_preS hP hD hK hS hZ hA [3] rfl rfl) rfl rfl hl.1 rfl (lv_room (Nat.le_of_ble_eq_true rfl)) dX10_fitsTracks_77 ⟨Nat.zero_le _, Nat.zero_le _⟩) ?_
              refine j_top (fun cv ecv => ?_)
              rw [atI_in (by omega)] at ecv
              refine j_icmp_eq (tgt := 85) hx hb (by omega) dX10_fitsTracks_80 (by decide) (fun c_80 => ?_) (fun c_80 => ?_)
              · refine lv_iinc (v := iI (i + 1)) (lv' := [(4, .int (iI (i + 1))), (3, .int (iI (f st9))), (0, .ref h0)]) hx hb dX10_fitsTracks_85 hl (k := 2) rfl (iI_add _ _) (by decide) rfl (fun ls hl => ?_)
                refine lv_goto (tgt := 44) hx hb dX10_fitsTracks_88 (by decide) ?_
                exact ih_44 ((f st9)) ((i + 1)) (k + 1) (by obtain ⟨hj1, hj2, hj3, hj4, hj5⟩ := hi2.resolve_right (fun w => by omega); have hnx : f st9 = itn f ((tr9 0 * 8 + d) * 9 + 0) (k + 1) := (by rw [itn, hj2]); exact ⟨by omega, Or.inl ⟨hj1, hnx, ftN_s hi1.1 hj3 hnx (by omega), by omega, by omega⟩⟩) (by omega) ls (lv_sub hl [2, 1, 0] rfl)
              · refine lv_iconst (v := iI (0)) hx hb dX10_fitsTracks_83 rfl ?_
                rw [hQ]; exact jr_zret hx hb hr hlocks jn_0 (jo_i (by obtain ⟨hj1, hj2, hj3, hj4, hj5⟩ := hi2.resolve_right (fun w => by omega); have hnx : f st9 = itn f ((tr9 0 * 8 + d) * 9 + 0) (k + 1) := (by rw [itn, hj2]); unfold ftF; rw [if_neg (by omega), ftN_no hi1.1 hnx (by omega) (by omega), Bool.and_false]; rfl)) dX10_fitsTracks_84
      exact loop_44 _ (-1) 1 0 (by first | exact ⟨by omega, Or.inl ⟨c_27, rfl, ftN_1 (by omega), by omega, by omega⟩⟩ | exact ⟨by omega, Or.inr ⟨by (first | exact c_27 | exact Bool.eq_false_iff.mpr c_27), rfl⟩⟩) (Nat.lt_succ_self _) ls (lv_sub hl [3, 1, 0] rfl)
    · refine lv_iload_n hx hb dX10_fitsTracks_30 rfl (lv_at hl 0 rfl) ?_
      refine lv_iload_n hx hb dX10_fitsTracks_31 rfl (lv_at hl 2 rfl) ?_
      refine lv_iconst (v := iI (0)) hx hb dX10_fitsTracks_32 rfl ?_
      refine j_rd (va_runS (As := [.int (iI (((tr9 0)))), .int (iI (d)), .int (iI (0))]) (rest := []) ⟨hx, hb, hml, hown, hts⟩ (c_X10_standOf l D cI cZ z (((tr9 0))) d 0  s.heap.size) (va_cwS 3 hts gX10_fitsTracks_X10_standOf rfl rfl rfl hsX10_standOf ⟨Nat.le_of_ble_eq_true rfl, Nat.le_of_ble_eq_true rfl⟩) (j_preS hP hD hK hS hZ hA [] rfl rfl) rfl rfl hl.1 rfl (lv_room (Nat.le_of_ble_eq_true rfl)) dX10_fitsTracks_33 ⟨Nat.zero_le _, Nat.zero_le _⟩) ?_
      refine lv_goto (tgt := 40) hx hb dX10_fitsTracks_36 (by decide) ?_
      refine lv_istore_n (lv' := [(3, .int (iI (((((tr9 0))) * 8 + d) * 9 + 0))), (2, .int (iI (((tr9 0))))), (0, .ref h0), (1, .int (iI (d)))]) hx hb dX10_fitsTracks_40 rfl hl (by decide) rfl (fun ls hl => ?_)
      refine lv_iconst (v := iI (1)) hx hb dX10_fitsTracks_41 rfl ?_
      refine lv_istore (lv' := [(4, .int (iI (1))), (3, .int (iI (((((tr9 0))) * 8 + d) * 9 + 0))), (2, .int (iI (((tr9 0))))), (0, .ref h0), (1, .int (iI (d)))]) hx hb dX10_fitsTracks_42 hl (by decide) rfl (fun ls hl => ?_)
      have loop_44 : ∀ (fuel_44 : Nat) (st9 : Int) (i : Int) (k : Nat), ((i = (k : Int) + 1 ∧ i ≤ tk9) ∧ ((isWd Wi Hi g (tr9 0) = true ∧ st9 = itn f ((tr9 0 * 8 + d) * 9 + 0) k ∧ ftN f tr9 ((tr9 0 * 8 + d) * 9 + 0) (k + 1) = true ∧ 0 ≤ st9 ∧ st9 < N) ∨ (isWd Wi Hi g (tr9 0) = false ∧ st9 = -1))) → (tk9 - i).toNat < fuel_44 → ∀ ls : Array Slot, lv_has ls 5 [(0, .ref h0), (3, .int (iI (st9))), (4, .int (iI (i)))] → W p l e rmX10_fitsTracks s m args below meth c s.heap [] 0 0 Q (F0 m 44 ls []) := by
        intro fuel_44
        induction fuel_44 with
        | zero => intro st9 i k hI9 hm9; exact absurd hm9 (Nat.not_lt_zero _)
        | succ fuel_44 ih_44 =>
          intro st9 i k hI_44 hm_44 ls hl
          obtain ⟨hi1, hi2⟩ := hI_44
          refine lv_iload hx hb dX10_fitsTracks_44 (lv_at hl 2 rfl) ?_
          refine lv_aload_n hx hb dX10_fitsTracks_46 rfl (lv_at hl 0 rfl) ?_
          refine va_get (D := D) (ci := 10) (v := .int (iI (tk9))) (C := RX10) (T := TX10) (N := 18) hx hb hts UX10 hown hK hP 0 rfl rfl 14 (by decide) L121 (fun _ h9 => h9) rfl dX10_fitsTracks_47 ?_
          refine j_icmp_ge (tgt := 91) hx hb (by omega) dX10_fitsTracks_50 (by decide) (fun c_50_1 => ?_) (fun c_50_1 => ?_)
          · refine lv_iload_n hx hb dX10_fitsTracks_91 rfl (lv_at hl 1 rfl) ?_
            refine lv_iconst (v := iI (-1)) hx hb dX10_fitsTracks_92 rfl ?_
            refine j_icmp_eq (tgt := 100) hx hb (by omega) dX10_fitsTracks_93 (by decide) (fun c_93_2 => ?_) (fun c_93_2 => ?_)
            · refine lv_iconst (v := iI (0)) hx hb dX10_fitsTracks_100 rfl ?_
              rw [hQ]; exact jr_zret hx hb hr hlocks jn_0 (jo_i (by unfold ftF; rw [if_neg (by omega)]; rcases hi2 with ⟨hj1, hj2, hj3, hj4, hj5⟩ | ⟨hj1, hj2⟩; (first | (rw [hj1, show tk9.toNat = k + 1 by omega, hj3]; rfl) | exact False.elim (by omega)); (first | (rw [hj1, Bool.false_and]; rfl) | exact False.elim (by omega)))) dX10_fitsTracks_101
            · refine lv_iconst (v := iI (1)) hx hb dX10_fitsTracks_96 rfl ?_
              refine lv_goto (tgt := 101) hx hb dX10_fitsTracks_97 (by decide) ?_
              rw [hQ]; exact jr_zret hx hb hr hlocks jn_1 (jo_i (by unfold ftF; rw [if_neg (by omega)]; rcases hi2 with ⟨hj1, hj2, hj3, hj4, hj5⟩ | ⟨hj1, hj2⟩; (first | (rw [hj1, show tk9.toNat = k + 1 by omega, hj3]; rfl) | exact False.elim (by omega)); (first | (rw [hj1, Bool.false_and]; rfl) | exact False.elim (by omega)))) dX10_fitsTracks_101
          · refine lv_iload_n hx hb dX10_fitsTracks_53 rfl (lv_at hl 1 rfl) ?_
            refine lv_iconst (v := iI (-1)) hx hb dX10_fitsTracks_54 rfl ?_
            refine j_icmp_eq (tgt := 91) hx hb (by omega) dX10_fitsTracks_55 (by decide) (fun c_55_1 => ?_) (fun c_55_1 => ?_)
            · refine lv_iload_n hx hb dX10_fitsTracks_91 rfl (lv_at hl 1 rfl) ?_
              refine lv_iconst (v := iI (-1)) hx hb dX10_fitsTracks_92 rfl ?_
              refine j_icmp_eq (tgt := 100) hx hb (by omega) dX10_fitsTracks_93 (by decide) (fun c_93_3 => ?_) (fun c_93_3 => ?_)
              · refine lv_iconst (v := iI (0)) hx hb dX10_fitsTracks_100 rfl ?_
                rw [hQ]; exact jr_zret hx hb hr hlocks jn_0 (jo_i (by unfold ftF; rw [if_neg (by omega)]; rcases hi2 with ⟨hj1, hj2, hj3, hj4, hj5⟩ | ⟨hj1, hj2⟩; (first | (rw [hj1, show tk9.toNat = k + 1 by omega, hj3]; rfl) | exact False.elim (by omega)); (first | (rw [hj1, Bool.false_and]; rfl) | exact False.elim (by omega)))) dX10_fitsTracks_101
              · refine lv_iconst (v := iI (1)) hx hb dX10_fitsTracks_96 rfl ?_
                refine lv_goto (tgt := 101) hx hb dX10_fitsTracks_97 (by decide) ?_
                rw [hQ]; exact jr_zret hx hb hr hlocks jn_1 (jo_i (by unfold ftF; rw [if_neg (by omega)]; rcases hi2 with ⟨hj1, hj2, hj3, hj4, hj5⟩ | ⟨hj1, hj2⟩; (first | (rw [hj1, show tk9.toNat = k + 1 by omega, hj3]; rfl) | exact False.elim (by omega)); (first | (rw [hj1, Bool.false_and]; rfl) | exact False.elim (by omega)))) dX10_fitsTracks_101
            · refine lv_aload_n hx hb dX10_fitsTracks_58 rfl (lv_at hl 0 rfl) ?_
              refine va_get (D := D) (ci := 10) (v := .ref h8) (C := RX10) (T := TX10) (N := 18) hx hb hts UX10 hown hK hP 0 rfl rfl 7 (by decide) L55 (fun _ h9 => h9) rfl dX10_fitsTracks_59 ?_
              refine lv_iload_n hx hb dX10_fitsTracks_62 rfl (lv_at hl 1 rfl) ?_
              refine j_rd (va_runV (As := [.int (iI (st9))]) (rest := []) ⟨hx, hb, hml, hown, hts⟩ (c_X9_after l D cI cZ z h8 h9 st9 ln wt wb a f N (by first | assumption | omega) (by first | assumption | omega) s.heap.size) (cwV 1 hts gX10_fitsTracks_X9_after rfl rfl rfl hvX9_after ⟨Nat.le_of_ble_eq_true rfl, Nat.le_of_ble_eq_true rfl⟩) (j_preV hP hD hK hS hZ hA [4, 5] rfl rfl 4 rfl rfl) rfl rfl hl.1 rfl (lv_room (Nat.le_of_ble_eq_true rfl)) dX10_fitsTracks_63 ⟨Nat.zero_le _, Nat.zero_le _⟩) ?_
              refine lv_istore_n (lv' := [(3, .int (iI (f st9))), (0, .ref h0), (4, .int (iI (i)))]) hx hb dX10_fitsTracks_66 rfl hl (by decide) rfl (fun ls hl => ?_)
              have hfr := hf.2.2.2 st9 (by omega) (by omega)
              refine lv_iload_n hx hb dX10_fitsTracks_67 rfl (lv_at hl 0 rfl) ?_
              refine j_rd (va_runS (As := [.int (iI (f st9))]) (rest := []) ⟨hx, hb, hml, hown, hts⟩ (c_X10_cellOf l D cI cZ z (f st9) (by first | assumption | omega) s.heap.size) (va_cwS 1 hts gX10_fitsTracks_X10_cellOf rfl rfl rfl hsX10_cellOf ⟨Nat.le_of_ble_eq_true rfl, Nat.le_of_ble_eq_true rfl⟩) (j_preS hP hD hK hS hZ hA [] rfl rfl) rfl rfl hl.1 rfl (lv_room (Nat.le_of_ble_eq_true rfl)) dX10_fitsTracks_68 ⟨Nat.zero_le _, Nat.zero_le _⟩) ?_
              refine j_top (fun ck_1 eck_1 => ?_)
              refine lv_aload_n hx hb dX10_fitsTracks_71 rfl (lv_at hl 1 rfl) ?_
              refine va_get (D := D) (ci := 10) (v := .ref h18) (C := RX10) (T := TX10) (N := 18) hx hb hts UX10 hown hK hP 0 rfl rfl 13 (by decide) L93 (fun _ h9 => h9) rfl dX10_fitsTracks_72 ?_
              refine lv_iload hx hb dX10_fitsTracks_75 (lv_at hl 2 rfl) ?_
              have hri := htr i (by omega) (by omega)
              refine j_rd (va_runS (As := [.ref h18, .int (iI (i))]) (rest := [.int (iI (ck_1))]) ⟨hx, hb, hml, hown, hts⟩ (c_X10_at l D cI cZ z h18 i tr9 16 (by first | assumption | omega) (by first | assumption | omega) s.heap.size) (va_cwS 2 hts gX10_fitsTracks_X10_at rfl rfl rfl hsX10_at ⟨Nat.le_of_ble_eq_true rfl, Nat.le_of_ble_eq_true rfl⟩) (j_preS hP hD hK hS hZ hA [3] rfl rfl) rfl rfl hl.1 rfl (lv_room (Nat.le_of_ble_eq_true rfl)) dX10_fitsTracks_77 ⟨Nat.zero_le _, Nat.zero_le _⟩) ?_
              refine j_top (fun cv_1 ecv_1 => ?_)
              rw [atI_in (by omega)] at ecv_1
              refine j_icmp_eq (tgt := 85) hx hb (by omega) dX10_fitsTracks_80 (by decide) (fun c_80_1 => ?_) (fun c_80_1 => ?_)
              · refine lv_iinc (v := iI (i + 1)) (lv' := [(4, .int (iI (i + 1))), (3, .int (iI (f st9))), (0, .ref h0)]) hx hb dX10_fitsTracks_85 hl (k := 2) rfl (iI_add _ _) (by decide) rfl (fun ls hl => ?_)
                refine lv_goto (tgt := 44) hx hb dX10_fitsTracks_88 (by decide) ?_
                exact ih_44 ((f st9)) ((i + 1)) (k + 1) (by obtain ⟨hj1, hj2, hj3, hj4, hj5⟩ := hi2.resolve_right (fun w => by omega); have hnx : f st9 = itn f ((tr9 0 * 8 + d) * 9 + 0) (k + 1) := (by rw [itn, hj2]); exact ⟨by omega, Or.inl ⟨hj1, hnx, ftN_s hi1.1 hj3 hnx (by omega), by omega, by omega⟩⟩) (by omega) ls (lv_sub hl [2, 1, 0] rfl)
              · refine lv_iconst (v := iI (0)) hx hb dX10_fitsTracks_83 rfl ?_
                rw [hQ]; exact jr_zret hx hb hr hlocks jn_0 (jo_i (by obtain ⟨hj1, hj2, hj3, hj4, hj5⟩ := hi2.resolve_right (fun w => by omega); have hnx : f st9 = itn f ((tr9 0 * 8 + d) * 9 + 0) (k + 1) := (by rw [itn, hj2]); unfold ftF; rw [if_neg (by omega), ftN_no hi1.1 hnx (by omega) (by omega), Bool.and_false]; rfl)) dX10_fitsTracks_84
      exact loop_44 _ (((((tr9 0))) * 8 + d) * 9 + 0) 1 0 (by first | exact ⟨by omega, Or.inl ⟨c_27, rfl, ftN_1 (by omega), by omega, by omega⟩⟩ | exact ⟨by omega, Or.inr ⟨by (first | exact c_27 | exact Bool.eq_false_iff.mpr c_27), rfl⟩⟩) (Nat.lt_succ_self _) ls (lv_sub hl [3, 1, 0] rfl)
  · refine lv_iconst (v := iI (1)) hx hb dX10_fitsTracks_8 rfl ?_
    rw [hQ]; exact jr_zret hx hb hr hlocks jn_1 (jo_i (by unfold ftF; rw [if_pos (by omega)]; rfl)) dX10_fitsTracks_9
