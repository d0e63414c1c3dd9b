abbrev rmX10_told : Room := { frames := 0, cells := 0, slots := 0, locals := 0 }
set_option maxHeartbeats 4000000 in
set_option maxRecDepth 100000 in
theorem c_X10_told (l : Launch) (D : va_G) (cI cZ : ClassId) (z : jZT) (h0 h20 h21 h10 h12 h14 h15 h16 h8 h1 h6 h2 h3 h17 h18 h19 h11 : Nat) (w tk9 lt tra Wi Hi bl sc sd no tu be sp : Int) (g : Int → Int) (hw : -2147483648 ≤ w ∧ w < 2147483648) : jRd l yX10_told wsX10_told rmX10_told [.ref h0, .int (iI (w))] D cI cZ z [(h0, .inr (10, [.ref h20, .ref h21, .ref h10, .ref h12, .ref h14, .ref h15, .ref h16, .ref h8, .ref h1, .ref h6, .ref h2, .ref h3, .ref h17, .ref h18, .int (iI (tk9)), .ref h19, .int (iI (lt)), .long (lI (tra))])), (h10, .inr (7, [.ref h11, .int (iI (Wi)), .int (iI (Hi)), .int (iI (bl)), .int (iI (sc)), .int (iI (sd)), .int (iI (no)), .int (iI (tu)), .int (iI (be)), .int (iI (sp))])), (h11, .inl (cI, 256, .inl (aI g)))] (some (.int (iI (toldF w Wi Hi no tu be sp bl sc sd)))) := by
  refine jRd_of (cc := cX10_told) (n := 2) (ret := (some .int)) (by decide) rfl (Nat.le_of_ble_eq_true rfl) ?_
  intro p e s m below meth c A ls args Q hQ F hA hZ hP hK hD hS hl
  obtain ⟨hx, hb, hr, hml, hown, hts, hlocks⟩ := F
  have hown : s.vm.findClass RX10 = some m.cls := hown
  have hl : lv_has ls 2 [(0, .ref h0), (1, .int (iI (w)))] := hl
  have L28 := hts (.fieldLink RX10 28 "TinMouse" "table" "LTinMouse$Table;") (by decide +kernel)
  have L143 := hts (.fieldLink RX10 143 "TinMouse$Table" "wide" "I") (by decide +kernel)
  have L146 := hts (.fieldLink RX10 146 "TinMouse$Table" "high" "I") (by decide +kernel)
  have L149 := hts (.fieldLink RX10 149 "TinMouse$Table" "nose" "I") (by decide +kernel)
  have L152 := hts (.fieldLink RX10 152 "TinMouse$Table" "turn" "I") (by decide +kernel)
  have L155 := hts (.fieldLink RX10 155 "TinMouse$Table" "bend" "I") (by decide +kernel)
  have L158 := hts (.fieldLink RX10 158 "TinMouse$Table" "spring" "I") (by decide +kernel)
  have L161 := hts (.fieldLink RX10 161 "TinMouse$Table" "bell" "I") (by decide +kernel)
  have L164 := hts (.fieldLink RX10 164 "TinMouse$Table" "startCell" "I") (by decide +kernel)
  have L167 := hts (.fieldLink RX10 167 "TinMouse$Table" "startDirection" "I") (by decide +kernel)
  have UX10 : ∀ w ∈ wsX100, w ∈ wsX10_told := fun w h => List.mem_cons_of_mem _ (List.mem_append_left _ (List.mem_append_right _ h))
  have UX7 : ∀ w ∈ wsX70, w ∈ wsX10_told := fun w h => List.mem_cons_of_mem _ (List.mem_append_right _ h)
  refine lv_iload_n hx hb dX10_told_0 rfl (lv_at hl 1 rfl) ?_
  rcases (show (w < 0 ∨ 8 < w) ∨ w = 0 ∨ w = 1 ∨ w = 2 ∨ w = 3 ∨ w = 4 ∨ w = 5 ∨ w = 6 ∨ w = 7 ∨ w = 8 by omega) with h_1 | h_1 | h_1 | h_1 | h_1 | h_1 | h_1 | h_1 | h_1 | h_1
  · refine lv_tableOut (tgt := 124) hx hb dX10_told_1 (by rw [iI_toInt (by omega)]; exact h_1) (by decide) ?_
    refine lv_iconst (v := iI (-1)) hx hb dX10_told_124 rfl ?_
    rw [hQ]; exact jr_iret hx hb hr hlocks (jo_i (by unfold toldF; omega)) dX10_told_125
  · have h9 : (iI (w)).toInt = 0 := by rw [h_1]; decide
    refine lv_tableIn (tgt := 52) hx hb dX10_told_1 (by rw [h9]; decide) (by rw [h9]; decide) (by rw [h9]; rfl) (by decide) ?_
    refine lv_aload_n hx hb dX10_told_52 rfl (lv_at hl 0 rfl) ?_
    refine va_get (D := D) (ci := 10) (v := .ref h10) (C := RX10) (T := TX10) (N := 18) hx hb hts UX10 hown hK hP 0 rfl rfl 2 (by decide) L28 (fun _ h9 => h9) rfl dX10_told_53 ?_
    refine va_get (D := D) (ci := 7) (v := .int (iI (Wi))) (C := RX7) (T := TX7) (N := 10) hx hb hts UX7 hown hK hP 1 rfl rfl 1 (by decide) L143 (fun _ h9 => h9) rfl dX10_told_56 ?_
    rw [hQ]; exact jr_iret hx hb hr hlocks (jo_i (by unfold toldF; omega)) dX10_told_59
  · have h9 : (iI (w)).toInt = 1 := by rw [h_1]; decide
    refine lv_tableIn (tgt := 60) hx hb dX10_told_1 (by rw [h9]; decide) (by rw [h9]; decide) (by rw [h9]; rfl) (by decide) ?_
    refine lv_aload_n hx hb dX10_told_60 rfl (lv_at hl 0 rfl) ?_
    refine va_get (D := D) (ci := 10) (v := .ref h10) (C := RX10) (T := TX10) (N := 18) hx hb hts UX10 hown hK hP 0 rfl rfl 2 (by decide) L28 (fun _ h9 => h9) rfl dX10_told_61 ?_
    refine va_get (D := D) (ci := 7) (v := .int (iI (Hi))) (C := RX7) (T := TX7) (N := 10) hx hb hts UX7 hown hK hP 1 rfl rfl 2 (by decide) L146 (fun _ h9 => h9) rfl dX10_told_64 ?_
    rw [hQ]; exact jr_iret hx hb hr hlocks (jo_i (by unfold toldF; omega)) dX10_told_67
  · have h9 : (iI (w)).toInt = 2 := by rw [h_1]; decide
    refine lv_tableIn (tgt := 68) hx hb dX10_told_1 (by rw [h9]; decide) (by rw [h9]; decide) (by rw [h9]; rfl) (by decide) ?_
    refine lv_aload_n hx hb dX10_told_68 rfl (lv_at hl 0 rfl) ?_
    refine va_get (D := D) (ci := 10) (v := .ref h10) (C := RX10) (T := TX10) (N := 18) hx hb hts UX10 hown hK hP 0 rfl rfl 2 (by decide) L28 (fun _ h9 => h9) rfl dX10_told_69 ?_
    refine va_get (D := D) (ci := 7) (v := .int (iI (no))) (C := RX7) (T := TX7) (N := 10) hx hb hts UX7 hown hK hP 1 rfl rfl 6 (by decide) L149 (fun _ h9 => h9) rfl dX10_told_72 ?_
    rw [hQ]; exact jr_iret hx hb hr hlocks (jo_i (by unfold toldF; omega)) dX10_told_75
  · have h9 : (iI (w)).toInt = 3 := by rw [h_1]; decide
    refine lv_tableIn (tgt := 76) hx hb dX10_told_1 (by rw [h9]; decide) (by rw [h9]; decide) (by rw [h9]; rfl) (by decide) ?_
    refine lv_aload_n hx hb dX10_told_76 rfl (lv_at hl 0 rfl) ?_
    refine va_get (D := D) (ci := 10) (v := .ref h10) (C := RX10) (T := TX10) (N := 18) hx hb hts UX10 hown hK hP 0 rfl rfl 2 (by decide) L28 (fun _ h9 => h9) rfl dX10_told_77 ?_
    refine va_get (D := D) (ci := 7) (v := .int (iI (tu))) (C := RX7) (T := TX7) (N := 10) hx hb hts UX7 hown hK hP 1 rfl rfl 7 (by decide) L152 (fun _ h9 => h9) rfl dX10_told_80 ?_
    rw [hQ]; exact jr_iret hx hb hr hlocks (jo_i (by unfold toldF; omega)) dX10_told_83
  · have h9 : (iI (w)).toInt = 4 := by rw [h_1]; decide
    refine lv_tableIn (tgt := 84) hx hb dX10_told_1 (by rw [h9]; decide) (by rw [h9]; decide) (by rw [h9]; rfl) (by decide) ?_
    refine lv_aload_n hx hb dX10_told_84 rfl (lv_at hl 0 rfl) ?_
    refine va_get (D := D) (ci := 10) (v := .ref h10) (C := RX10) (T := TX10) (N := 18) hx hb hts UX10 hown hK hP 0 rfl rfl 2 (by decide) L28 (fun _ h9 => h9) rfl dX10_told_85 ?_
    refine va_get (D := D) (ci := 7) (v := .int (iI (be))) (C := RX7) (T := TX7) (N := 10) hx hb hts UX7 hown hK hP 1 rfl rfl 8 (by decide) L155 (fun _ h9 => h9) rfl dX10_told_88 ?_
    rw [hQ]; exact jr_iret hx hb hr hlocks (jo_i (by unfold toldF; omega)) dX10_told_91
  · have h9 : (iI (w)).toInt = 5 := by rw [h_1]; decide
    refine lv_tableIn (tgt := 92) hx hb dX10_told_1 (by rw [h9]; decide) (by rw [h9]; decide) (by rw [h9]; rfl) (by decide) ?_
    refine lv_aload_n hx hb dX10_told_92 rfl (lv_at hl 0 rfl) ?_
    refine va_get (D := D) (ci := 10) (v := .ref h10) (C := RX10) (T := TX10) (N := 18) hx hb hts UX10 hown hK hP 0 rfl rfl 2 (by decide) L28 (fun _ h9 => h9) rfl dX10_told_93 ?_
    refine va_get (D := D) (ci := 7) (v := .int (iI (sp))) (C := RX7) (T := TX7) (N := 10) hx hb hts UX7 hown hK hP 1 rfl rfl 9 (by decide) L158 (fun _ h9 => h9) rfl dX10_told_96 ?_
    rw [hQ]; exact jr_iret hx hb hr hlocks (jo_i (by unfold toldF; omega)) dX10_told_99
  · have h9 : (iI (w)).toInt = 6 := by rw [h_1]; decide
    refine lv_tableIn (tgt := 100) hx hb dX10_told_1 (by rw [h9]; decide) (by rw [h9]; decide) (by rw [h9]; rfl) (by decide) ?_
    refine lv_aload_n hx hb dX10_told_100 rfl (lv_at hl 0 rfl) ?_
    refine va_get (D := D) (ci := 10) (v := .ref h10) (C := RX10) (T := TX10) (N := 18) hx hb hts UX10 hown hK hP 0 rfl rfl 2 (by decide) L28 (fun _ h9 => h9) rfl dX10_told_101 ?_
    refine va_get (D := D) (ci := 7) (v := .int (iI (bl))) (C := RX7) (T := TX7) (N := 10) hx hb hts UX7 hown hK hP 1 rfl rfl 3 (by decide) L161 (fun _ h9 => h9) rfl dX10_told_104 ?_
    rw [hQ]; exact jr_iret hx hb hr hlocks (jo_i (by unfold toldF; omega)) dX10_told_107
  · have h9 : (iI (w)).toInt = 7 := by rw [h_1]; decide
    refine lv_tableIn (tgt := 108) hx hb dX10_told_1 (by rw [h9]; decide) (by rw [h9]; decide) (by rw [h9]; rfl) (by decide) ?_
    refine lv_aload_n hx hb dX10_told_108 rfl (lv_at hl 0 rfl) ?_
    refine va_get (D := D) (ci := 10) (v := .ref h10) (C := RX10) (T := TX10) (N := 18) hx hb hts UX10 hown hK hP 0 rfl rfl 2 (by decide) L28 (fun _ h9 => h9) rfl dX10_told_109 ?_
    refine va_get (D := D) (ci := 7) (v := .int (iI (sc))) (C := RX7) (T := TX7) (N := 10) hx hb hts UX7 hown hK hP 1 rfl rfl 4 (by decide) L164 (fun _ h9 => h9) rfl dX10_told_112 ?_
    rw [hQ]; exact jr_iret hx hb hr hlocks (jo_i (by unfold toldF; omega)) dX10_told_115
  · have h9 : (iI (w)).toInt = 8 := by rw [h_1]; decide
    refine lv_tableIn (tgt := 116) hx hb dX10_told_1 (by rw [h9]; decide) (by rw [h9]; decide) (by rw [h9]; rfl) (by decide) ?_
    refine lv_aload_n hx hb dX10_told_116 rfl (lv_at hl 0 rfl) ?_
    refine va_get (D := D) (ci := 10) (v := .ref h10) (C := RX10) (T := TX10) (N := 18) hx hb hts UX10 hown hK hP 0 rfl rfl 2 (by decide) L28 (fun _ h9 => h9) rfl dX10_told_117 ?_
    refine va_get (D := D) (ci := 7) (v := .int (iI (sd))) (C := RX7) (T := TX7) (N := 10) hx hb hts UX7 hown hK hP 1 rfl rfl 5 (by decide) L167 (fun _ h9 => h9) rfl dX10_told_120 ?_
    rw [hQ]; exact jr_iret hx hb hr hlocks (jo_i (by unfold toldF; omega)) dX10_told_123
abbrev rmX10_isOver : Room := { frames := 3, cells := 0, slots := 0, locals := 64 }
set_option maxHeartbeats 4000000 in
set_option maxRecDepth 100000 in
theorem c_X10_isOver (l : Launch) (D : va_G) (cI cZ : ClassId) (z : jZT) (h0 h20 h21 h10 h12 h14 h15 h16 h8 h1 h6 h2 h3 h17 h18 h19 h11 : Nat) (tk9 lt tra nk nd nb nsp nst nmo ntu nri nla nro Wi Hi bl sc sd no tu be sp : Int) (g : Int → Int) (hW : 3 ≤ Wi ∧ Wi ≤ 16) (hH : 3 ≤ Hi ∧ Hi ≤ 16) (hg : ∀ j : Int, 0 ≤ j → j < 256 → 0 ≤ g j ∧ g j ≤ 2) (hNow : NowI Wi Hi nk nd nb nsp nro) : jRd l yX10_isOver wsX10_isOver rmX10_isOver [.ref h0] D cI cZ z [(h0, .inr (10, [.ref h20, .ref h21, .ref h10, .ref h12, .ref h14, .ref h15, .ref h16, .ref h8, .ref h1, .ref h6, .ref h2, .ref h3, .ref h17, .ref h18, .int (iI (tk9)), .ref h19, .int (iI (lt)), .long (lI (tra))])), (h14, .inr (4, [.int (iI (nk)), .int (iI (nd)), .int (iI (nb)), .int (iI (nsp)), .int (iI (nst)), .int (iI (nmo)), .int (iI (ntu)), .int (iI (nri)), .int (iI (nla)), .int (iI (nro))])), (h10, .inr (7, [.ref h11, .int (iI (Wi)), .int (iI (Hi)), .int (iI (bl)), .int (iI (sc)), .int (iI (sd)), .int (iI (no)), .int (iI (tu)), .int (iI (be)), .int (iI (sp))])), (h11, .inl (cI, 256, .inl (aI g)))] (some (.int (iI (bI (decide (stI Wi Hi g nk nsp = 2)))))) := by
  refine jRd_of (cc := cX10_isOver) (n := 1) (ret := (some .boolean)) (by decide) rfl (Nat.le_of_ble_eq_true rfl) ?_
  intro p e s m below meth c A ls args Q hQ F hA hZ hP hK hD hS hl
  obtain ⟨hx, hb, hr, hml, hown, hts, hlocks⟩ := F
  have hown : s.vm.findClass RX10 = some m.cls := hown
  have hl : lv_has ls 1 [(0, .ref h0)] := hl
  have L38 := hts (.fieldLink RX10 38 "TinMouse" "now" "LTinMouse$Now;") (by decide +kernel)
  have L28 := hts (.fieldLink RX10 28 "TinMouse" "table" "LTinMouse$Table;") (by decide +kernel)
  have UX10 : ∀ w ∈ wsX100, w ∈ wsX10_isOver := fun w h => List.mem_cons_of_mem _ (List.mem_append_left _ (List.mem_append_left _ (List.mem_append_right _ h)))
  have hwh := wh_rng hW hH
  have hnk := hNow.1
  have hstr : 0 ≤ stI Wi Hi g nk nsp ∧ stI Wi Hi g nk nsp ≤ 2 := stI_rng
  refine lv_aload_n hx hb dX10_isOver_0 rfl (lv_at hl 0 rfl) ?_
  refine va_get (D := D) (ci := 10) (v := .ref h14) (C := RX10) (T := TX10) (N := 18) hx hb hts UX10 hown hK hP 0 rfl rfl 4 (by decide) L38 (fun _ h9 => h9) rfl dX10_isOver_1 ?_
  refine lv_aload_n hx hb dX10_isOver_4 rfl (lv_at hl 0 rfl) ?_
  refine va_get (D := D) (ci := 10) (v := .ref h10) (C := RX10) (T := TX10) (N := 18) hx hb hts UX10 hown hK hP 0 rfl rfl 2 (by decide) L28 (fun _ h9 => h9) rfl dX10_isOver_5 ?_
  refine j_rd (va_runV (As := [.ref h10]) (rest := []) ⟨hx, hb, hml, hown, hts⟩ (c_X4_state l D cI cZ z h14 h10 h11 nk nd nb nsp nst nmo ntu nri nla nro Wi Hi bl sc sd no tu be sp g (by first | assumption | omega) (by first | assumption | omega) (by first | assumption | omega) (by omega) (by omega) s.heap.size) (cwV 1 hts gX10_isOver_X4_state rfl rfl rfl hvX4_state ⟨Nat.le_of_ble_eq_true rfl, Nat.le_of_ble_eq_true rfl⟩) (j_preV hP hD hK hS hZ hA [1, 2, 3] rfl rfl 1 rfl rfl) rfl rfl hl.1 rfl (lv_room (Nat.le_of_ble_eq_true rfl)) dX10_isOver_8 ⟨Nat.zero_le _, Nat.zero_le _⟩) ?_
  refine lv_iconst (v := iI (2)) hx hb dX10_isOver_11 rfl ?_
  refine j_icmp_ne (tgt := 19) hx hb (by omega) dX10_isOver_12 (by decide) (fun c_12 => ?_) (fun c_12 => ?_)
  · refine lv_iconst (v := iI (0)) hx hb dX10_isOver_19 rfl ?_
    rw [hQ]; exact jr_zret hx hb hr hlocks jn_0 (jo_i (by first | (rw [decide_eq_true (by omega)]; rfl) | (rw [decide_eq_false (by omega)]; rfl))) dX10_isOver_20
  · refine lv_iconst (v := iI (1)) hx hb dX10_isOver_15 rfl ?_
    refine lv_goto (tgt := 20) hx hb dX10_isOver_16 (by decide) ?_
    rw [hQ]; exact jr_zret hx hb hr hlocks jn_1 (jo_i (by first | (rw [decide_eq_true (by omega)]; rfl) | (rw [decide_eq_false (by omega)]; rfl))) dX10_isOver_20
abbrev rmX10_now : Room := { frames := 3, cells := 0, slots := 0, locals := 64 }
set_option maxHeartbeats 4000000 in
set_option maxRecDepth 100000 in
theorem c_X10_now (l : Launch) (D : va_G) (cI cZ : ClassId) (z : jZT) (h0 h20 h21 h10 h12 h14 h15 h16 h8 h1 h6 h2 h3 h17 h18 h19 h11 : Nat) (w tk9 lt tra nk nd nb nsp nst nmo ntu nri nla nro Wi Hi bl sc sd no tu be sp : Int) (g : Int → Int) (hW : 3 ≤ Wi ∧ Wi ≤ 16) (hH : 3 ≤ Hi ∧ Hi ≤ 16) (hg : ∀ j : Int, 0 ≤ j → j < 256 → 0 ≤ g j ∧ g j ≤ 2) (hNow : NowI Wi Hi nk nd nb nsp nro) (hw : -2147483648 ≤ w ∧ w < 2147483648) : jRd l yX10_now wsX10_now rmX10_now [.ref h0, .int (iI (w))] D cI cZ z [(h0, .inr (10, [.ref h20, .ref h21, .ref h10, .ref h12, .ref h14, .ref h15, .ref h16, .ref h8, .ref h1, .ref h6, .ref h2, .ref h3, .ref h17, .ref h18, .int (iI (tk9)), .ref h19, .int (iI (lt)), .long (lI (tra))])), (h14, .inr (4, [.int (iI (nk)), .int (iI (nd)), .int (iI (nb)), .int (iI (nsp)), .int (iI (nst)), .int (iI (nmo)), .int (iI (ntu)), .int (iI (nri)), .int (iI (nla)), .int (iI (nro))])), (h10, .inr (7, [.ref h11, .int (iI (Wi)), .int (iI (Hi)), .int (iI (bl)), .int (iI (sc)), .int (iI (sd)), .int (iI (no)), .int (iI (tu)), .int (iI (be)), .int (iI (sp))])), (h11, .inl (cI, 256, .inl (aI g)))] (some (.int (iI (nowF w nk nd nb nsp (stI Wi Hi g nk nsp) nst nmo ntu nri nla)))) := by
  refine jRd_of (cc := cX10_now) (n := 2) (ret := (some .int)) (by decide) rfl (Nat.le_of_ble_eq_true rfl) ?_
  intro p e s m below meth c A ls args Q hQ F hA hZ hP hK hD hS hl
  obtain ⟨hx, hb, hr, hml, hown, hts, hlocks⟩ := F
  have hown : s.vm.findClass RX10 = some m.cls := hown
  have hl : lv_has ls 2 [(0, .ref h0), (1, .int (iI (w)))] := hl
  have L38 := hts (.fieldLink RX10 38 "TinMouse" "now" "LTinMouse$Now;") (by decide +kernel)
  have L195 := hts (.fieldLink RX10 195 "TinMouse$Now" "cell" "I") (by decide +kernel)
  have L197 := hts (.fieldLink RX10 197 "TinMouse$Now" "direction" "I") (by decide +kernel)
  have L200 := hts (.fieldLink RX10 200 "TinMouse$Now" "bent" "I") (by decide +kernel)
  have L180 := hts (.fieldLink RX10 180 "TinMouse$Now" "spring" "I") (by decide +kernel)
  have L28 := hts (.fieldLink RX10 28 "TinMouse" "table" "LTinMouse$Table;") (by decide +kernel)
  have L192 := hts (.fieldLink RX10 192 "TinMouse$Now" "steps" "I") (by decide +kernel)
  have L203 := hts (.fieldLink RX10 203 "TinMouse$Now" "moves" "I") (by decide +kernel)
  have L206 := hts (.fieldLink RX10 206 "TinMouse$Now" "turns" "I") (by decide +kernel)
  have L209 := hts (.fieldLink RX10 209 "TinMouse$Now" "rings" "I") (by decide +kernel)
  have L212 := hts (.fieldLink RX10 212 "TinMouse$Now" "latest" "I") (by decide +kernel)
  have UX10 : ∀ w ∈ wsX100, w ∈ wsX10_now := fun w h => List.mem_cons_of_mem _ (List.mem_append_left _ (List.mem_append_left _ (List.mem_append_right _ h)))
  have UX4 : ∀ w ∈ wsX40, w ∈ wsX10_now := fun w h => List.mem_cons_of_mem _ (List.mem_append_left _ (List.mem_append_right _ h))
  have hwh := wh_rng hW hH
  have hnk := hNow.1
  refine lv_iload_n hx hb dX10_now_0 rfl (lv_at hl 1 rfl) ?_
  rcases (show (w < 0 ∨ 9 < w) ∨ w = 0 ∨ w = 1 ∨ w = 2 ∨ w = 3 ∨ w = 4 ∨ w = 5 ∨ w = 6 ∨ w = 7 ∨ w = 8 ∨ w = 9 by omega) with h_1 | h_1 | h_1 | h_1 | h_1 | h_1 | h_1 | h_1 | h_1 | h_1 | h_1
  · refine lv_tableOut (tgt := 140) hx hb dX10_now_1 (by rw [iI_toInt (by omega)]; exact h_1) (by decide) ?_
    refine lv_iconst (v := iI (-1)) hx hb dX10_now_140 rfl ?_
    rw [hQ]; exact jr_iret hx hb hr hlocks (jo_i (by unfold nowF; omega)) dX10_now_141
  · have h9 : (iI (w)).toInt = 0 := by rw [h_1]; decide
    refine lv_tableIn (tgt := 56) hx hb dX10_now_1 (by rw [h9]; decide) (by rw [h9]; decide) (by rw [h9]; rfl) (by decide) ?_
    refine lv_aload_n hx hb dX10_now_56 rfl (lv_at hl 0 rfl) ?_
    refine va_get (D := D) (ci := 10) (v := .ref h14) (C := RX10) (T := TX10) (N := 18) hx hb hts UX10 hown hK hP 0 rfl rfl 4 (by decide) L38 (fun _ h9 => h9) rfl dX10_now_57 ?_
    refine va_get (D := D) (ci := 4) (v := .int (iI (nk))) (C := RX4) (T := TX4) (N := 10) hx hb hts UX4 hown hK hP 1 rfl rfl 0 (by decide) L195 (fun _ h9 => h9) rfl dX10_now_60 ?_
    rw [hQ]; exact jr_iret hx hb hr hlocks (jo_i (by unfold nowF; omega)) dX10_now_63
  · have h9 : (iI (w)).toInt = 1 := by rw [h_1]; decide
    refine lv_tableIn (tgt := 64) hx hb dX10_now_1 (by rw [h9]; decide) (by rw [h9]; decide) (by rw [h9]; rfl) (by decide) ?_
    refine lv_aload_n hx hb dX10_now_64 rfl (lv_at hl 0 rfl) ?_
    refine va_get (D := D) (ci := 10) (v := .ref h14) (C := RX10) (T := TX10) (N := 18) hx hb hts UX10 hown hK hP 0 rfl rfl 4 (by decide) L38 (fun _ h9 => h9) rfl dX10_now_65 ?_
    refine va_get (D := D) (ci := 4) (v := .int (iI (nd))) (C := RX4) (T := TX4) (N := 10) hx hb hts UX4 hown hK hP 1 rfl rfl 1 (by decide) L197 (fun _ h9 => h9) rfl dX10_now_68 ?_
    rw [hQ]; exact jr_iret hx hb hr hlocks (jo_i (by unfold nowF; omega)) dX10_now_71
  · have h9 : (iI (w)).toInt = 2 := by rw [h_1]; decide
    refine lv_tableIn (tgt := 72) hx hb dX10_now_1 (by rw [h9]; decide) (by rw [h9]; decide) (by rw [h9]; rfl) (by decide) ?_
    refine lv_aload_n hx hb dX10_now_72 rfl (lv_at hl 0 rfl) ?_
    refine va_get (D := D) (ci := 10) (v := .ref h14) (C := RX10) (T := TX10) (N := 18) hx hb hts UX10 hown hK hP 0 rfl rfl 4 (by decide) L38 (fun _ h9 => h9) rfl dX10_now_73 ?_
    refine va_get (D := D) (ci := 4) (v := .int (iI (nb))) (C := RX4) (T := TX4) (N := 10) hx hb hts UX4 hown hK hP 1 rfl rfl 2 (by decide) L200 (fun _ h9 => h9) rfl dX10_now_76 ?_
    rw [hQ]; exact jr_iret hx hb hr hlocks (jo_i (by unfold nowF; omega)) dX10_now_79
  · have h9 : (iI (w)).toInt = 3 := by rw [h_1]; decide
    refine lv_tableIn (tgt := 80) hx hb dX10_now_1 (by rw [h9]; decide) (by rw [h9]; decide) (by rw [h9]; rfl) (by decide) ?_
    refine lv_aload_n hx hb dX10_now_80 rfl (lv_at hl 0 rfl) ?_
    refine va_get (D := D) (ci := 10) (v := .ref h14) (C := RX10) (T := TX10) (N := 18) hx hb hts UX10 hown hK hP 0 rfl rfl 4 (by decide) L38 (fun _ h9 => h9) rfl dX10_now_81 ?_
    refine va_get (D := D) (ci := 4) (v := .int (iI (nsp))) (C := RX4) (T := TX4) (N := 10) hx hb hts UX4 hown hK hP 1 rfl rfl 3 (by decide) L180 (fun _ h9 => h9) rfl dX10_now_84 ?_
    rw [hQ]; exact jr_iret hx hb hr hlocks (jo_i (by unfold nowF; omega)) dX10_now_87
  · have h9 : (iI (w)).toInt = 4 := by rw [h_1]; decide
    refine lv_tableIn (tgt := 88) hx hb dX10_now_1 (by rw [h9]; decide) (by rw [h9]; decide) (by rw [h9]; rfl) (by decide) ?_
    refine lv_aload_n hx hb dX10_now_88 rfl (lv_at hl 0 rfl) ?_
    refine va_get (D := D) (ci := 10) (v := .ref h14) (C := RX10) (T := TX10) (N := 18) hx hb hts UX10 hown hK hP 0 rfl rfl 4 (by decide) L38 (fun _ h9 => h9) rfl dX10_now_89 ?_
    refine lv_aload_n hx hb dX10_now_92 rfl (lv_at hl 0 rfl) ?_
    refine va_get (D := D) (ci := 10) (v := .ref h10) (C := RX10) (T := TX10) (N := 18) hx hb hts UX10 hown hK hP 0 rfl rfl 2 (by decide) L28 (fun _ h9 => h9) rfl dX10_now_93 ?_
    refine j_rd (va_runV (As := [.ref h10]) (rest := []) ⟨hx, hb, hml, hown, hts⟩ (c_X4_state l D cI cZ z h14 h10 h11 nk nd nb nsp nst nmo ntu nri nla nro Wi Hi bl sc sd no tu be sp g (by first | assumption | omega) (by first | assumption | omega) (by first | assumption | omega) (by omega) (by omega) s.heap.size) (cwV 1 hts gX10_now_X4_state rfl rfl rfl hvX4_state ⟨Nat.le_of_ble_eq_true rfl, Nat.le_of_ble_eq_true rfl⟩) (j_preV hP hD hK hS hZ hA [1, 2, 3] rfl rfl 1 rfl rfl) rfl rfl hl.1 rfl (lv_room (Nat.le_of_ble_eq_true rfl)) dX10_now_96 ⟨Nat.zero_le _, Nat.zero_le _⟩) ?_
    rw [hQ]; exact jr_iret hx hb hr hlocks (jo_i (by unfold nowF; omega)) dX10_now_99
  · have h9 : (iI (w)).toInt = 5 := by rw [h_1]; decide
    refine lv_tableIn (tgt := 100) hx hb dX10_now_1 (by rw [h9]; decide) (by rw [h9]; decide) (by rw [h9]; rfl) (by decide) ?_
    refine lv_aload_n hx hb dX10_now_100 rfl (lv_at hl 0 rfl) ?_
    refine va_get (D := D) (ci := 10) (v := .ref h14) (C := RX10) (T := TX10) (N := 18) hx hb hts UX10 hown hK hP 0 rfl rfl 4 (by decide) L38 (fun _ h9 => h9) rfl dX10_now_101 ?_
    refine va_get (D := D) (ci := 4) (v := .int (iI (nst))) (C := RX4) (T := TX4) (N := 10) hx hb hts UX4 hown hK hP 1 rfl rfl 4 (by decide) L192 (fun _ h9 => h9) rfl dX10_now_104 ?_
    rw [hQ]; exact jr_iret hx hb hr hlocks (jo_i (by unfold nowF; omega)) dX10_now_107
  · have h9 : (iI (w)).toInt = 6 := by rw [h_1]; decide
    refine lv_tableIn (tgt := 108) hx hb dX10_now_1 (by rw [h9]; decide) (by rw [h9]; decide) (by rw [h9]; rfl) (by decide) ?_
    refine lv_aload_n hx hb dX10_now_108 rfl (lv_at hl 0 rfl) ?_
    refine va_get (D := D) (ci := 10) (v := .ref h14) (C := RX10) (T := TX10) (N := 18) hx hb hts UX10 hown hK hP 0 rfl rfl 4 (by decide) L38 (fun _ h9 => h9) rfl dX10_now_109 ?_
    refine va_get (D := D) (ci := 4) (v := .int (iI (nmo))) (C := RX4) (T := TX4) (N := 10) hx hb hts UX4 hown hK hP 1 rfl rfl 5 (by decide) L203 (fun _ h9 => h9) rfl dX10_now_112 ?_
    rw [hQ]; exact jr_iret hx hb hr hlocks (jo_i (by unfold nowF; omega)) dX10_now_115
  · have h9 : (iI (w)).toInt = 7 := by rw [h_1]; decide
    refine lv_tableIn (tgt := 116) hx hb dX10_now_1 (by rw [h9]; decide) (by rw [h9]; decide) (by rw [h9]; rfl) (by decide) ?_
    refine lv_aload_n hx hb dX10_now_116 rfl (lv_at hl 0 rfl) ?_
    refine va_get (D := D) (ci := 10) (v := .ref h14) (C := RX10) (T := TX10) (N := 18) hx hb hts UX10 hown hK hP 0 rfl rfl 4 (by decide) L38 (fun _ h9 => h9) rfl dX10_now_117 ?_
    refine va_get (D := D) (ci := 4) (v := .int (iI (ntu))) (C := RX4) (T := TX4) (N := 10) hx hb hts UX4 hown hK hP 1 rfl rfl 6 (by decide) L206 (fun _ h9 => h9) rfl dX10_now_120 ?_
    rw [hQ]; exact jr_iret hx hb hr hlocks (jo_i (by unfold nowF; omega)) dX10_now_123
  · have h9 : (iI (w)).toInt = 8 := by rw [h_1]; decide
    refine lv_tableIn (tgt := 124) hx hb dX10_now_1 (by rw [h9]; decide) (by rw [h9]; decide) (by rw [h9]; rfl) (by decide) ?_
    refine lv_aload_n hx hb dX10_now_124 rfl (lv_at hl 0 rfl) ?_
    refine va_get (D := D) (ci := 10) (v := .ref h14) (C := RX10) (T := TX10) (N := 18) hx hb hts UX10 hown hK hP 0 rfl rfl 4 (by decide) L38 (fun _ h9 => h9) rfl dX10_now_125 ?_
    refine va_get (D := D) (ci := 4) (v := .int (iI (nri))) (C := RX4) (T := TX4) (N := 10) hx hb hts UX4 hown hK hP 1 rfl rfl 7 (by decide) L209 (fun _ h9 => h9) rfl dX10_now_128 ?_
    rw [hQ]; exact jr_iret hx hb hr hlocks (jo_i (by unfold nowF; omega)) dX10_now_131
  · have h9 : (iI (w)).toInt = 9 := by rw [h_1]; decide
    refine lv_tableIn (tgt := 132) hx hb dX10_now_1 (by rw [h9]; decide) (by rw [h9]; decide) (by rw [h9]; rfl) (by decide) ?_
    refine lv_aload_n hx hb dX10_now_132 rfl (lv_at hl 0 rfl) ?_
    refine va_get (D := D) (ci := 10) (v := .ref h14) (C := RX10) (T := TX10) (N := 18) hx hb hts UX10 hown hK hP 0 rfl rfl 4 (by decide) L38 (fun _ h9 => h9) rfl dX10_now_133 ?_
    refine va_get (D := D) (ci := 4) (v := .int (iI (nla))) (C := RX4) (T := TX4) (N := 10) hx hb hts UX4 hown hK hP 1 rfl rfl 8 (by decide) L212 (fun _ h9 => h9) rfl dX10_now_136 ?_
    rw [hQ]; exact jr_iret hx hb hr hlocks (jo_i (by unfold nowF; omega)) dX10_now_139
abbrev rmX10_clear : Room := { frames := 0, cells := 0, slots := 0, locals := 0 }
set_option maxHeartbeats 4000000 in
set_option maxRecDepth 100000 in
theorem c_X10_clear (l : Launch) (D : va_G) (cI cZ : ClassId) (z : jZT) (h0 h20 h21 h10 h12 h14 h15 h16 h8 h1 h6 h2 h3 h17 h18 h19 h22 : Nat) (tk9 lt tra tn pl fi so va : Int) : jMu (S := Unit) l yX10_clear wsX10_clear rmX10_clear [.ref h0] D cI cZ z [(h0, .inr (10, [.ref h20, .ref h21, .ref h10, .ref h12, .ref h14, .ref h15, .ref h16, .ref h8, .ref h1, .ref h6, .ref h2, .ref h3, .ref h17, .ref h18, .int (iI (tk9)), .ref h19, .int (iI (lt)), .long (lI (tra))])), (h20, .inr (8, [.ref h22, .int (iI (tn)), .int (iI (pl)), .int (iI (fi)), .int (iI (so)), .int (iI (va))]))] (fun u => some (.int (iI (tn)))) (fun u => True) (fun u => [(h0, .inr (10, [.ref h20, .ref h21, .ref h10, .ref h12, .ref h14, .ref h15, .ref h16, .ref h8, .ref h1, .ref h6, .ref h2, .ref h3, .ref h17, .ref h18, .int (iI (tk9)), .ref h19, .int (iI (lt)), .long (lI (tra))])), (h20, .inr (8, [.ref h22, .int (iI (0)), .int (iI (pl)), .int (iI (fi)), .int (iI (so)), .int (iI (va))]))]) := by
  refine jMu_of (cc := cX10_clear) (n := 2) (ret := (some .int)) (by decide) rfl (Nat.le_of_ble_eq_true rfl) ?_
  intro p e s m below meth c A ls args Q hQ F hA hZ hP hK hD hS hl
  obtain ⟨hx, hb, hr, hml, hown, hts, hlocks⟩ := F
  have hown : s.vm.findClass RX10 = some m.cls := hown
  have hl : lv_has ls 2 [(0, .ref h0)] := hl
  have L12 := hts (.fieldLink RX10 12 "TinMouse" "text" "LTinMouse$Text;") (by decide +kernel)
  have L111 := hts (.fieldLink RX10 111 "TinMouse$Text" "length" "I") (by decide +kernel)
  have UX10 : ∀ w ∈ wsX100, w ∈ wsX10_clear := fun w h => List.mem_cons_of_mem _ (List.mem_append_left _ (List.mem_append_right _ h))
  have UX8 : ∀ w ∈ wsX80, w ∈ wsX10_clear := fun w h => List.mem_cons_of_mem _ (List.mem_append_right _ h)
  refine lv_aload_n hx hb dX10_clear_0 rfl (lv_at hl 0 rfl) ?_
  refine va_get (D := D) (ci := 10) (v := .ref h20) (C := RX10) (T := TX10) (N := 18) hx hb hts UX10 hown hK hP 0 rfl rfl 0 (by decide) L12 (fun _ h9 => h9) rfl dX10_clear_1 ?_
  refine va_get (D := D) (ci := 8) (v := .int (iI (tn))) (C := RX8) (T := TX8) (N := 6) hx hb hts UX8 hown hK hP 1 rfl rfl 1 (by decide) L111 (fun _ h9 => h9) rfl dX10_clear_4 ?_
  refine lv_istore_n (lv' := [(1, .int (iI (tn))), (0, .ref h0)]) hx hb dX10_clear_7 rfl hl (by decide) rfl (fun ls hl => ?_)
  refine lv_aload_n hx hb dX10_clear_8 rfl (lv_at hl 1 rfl) ?_
  refine va_get (D := D) (ci := 10) (v := .ref h20) (C := RX10) (T := TX10) (N := 18) hx hb hts UX10 hown hK hP 0 rfl rfl 0 (by decide) L12 (fun _ h9 => h9) rfl dX10_clear_9 ?_
  refine lv_iconst (v := iI (0)) hx hb dX10_clear_12 rfl ?_
  refine va_put (D := D) (ci := 8) (v := .int (iI (0))) (ty := .int) (C := RX8) (T := TX8) (N := 6) hx hb hts UX8 tyX8 tyX8_ok nmX8 hown hK hP hD hS 1 rfl rfl 1 (by decide) L111 (fun _ h9 => h9) rfl rfl rfl rfl (Nat.le_of_ble_eq_true rfl) dX10_clear_13 (fun H locs hP hD hS => ?_)
  have hP : va_P D vwCl [(h0, .inr (10, [.ref h20, .ref h21, .ref h10, .ref h12, .ref h14, .ref h15, .ref h16, .ref h8, .ref h1, .ref h6, .ref h2, .ref h3, .ref h17, .ref h18, .int (iI (tk9)), .ref h19, .int (iI (lt)), .long (lI (tra))])), (h20, .inr (8, [.ref h22, .int (iI (0)), .int (iI (pl)), .int (iI (fi)), .int (iI (so)), .int (iI (va))]))] H := hP
  have hD : va_D A [(h0, .inr (10, [.ref h20, .ref h21, .ref h10, .ref h12, .ref h14, .ref h15, .ref h16, .ref h8, .ref h1, .ref h6, .ref h2, .ref h3, .ref h17, .ref h18, .int (iI (tk9)), .ref h19, .int (iI (lt)), .long (lI (tra))])), (h20, .inr (8, [.ref h22, .int (iI (0)), .int (iI (pl)), .int (iI (fi)), .int (iI (so)), .int (iI (va))]))] := hD
  refine lv_iload_n hx hb dX10_clear_16 rfl (lv_at hl 0 rfl) ?_
  rw [hQ]; exact jm_iret () hx hb hr hlocks hS hP rfl trivial dX10_clear_17
abbrev rmX10_wipe : Room := { frames := 0, cells := 0, slots := 0, locals := 0 }
set_option maxHeartbeats 4000000 in
set_option maxRecDepth 100000 in
theorem c_X10_wipe (l : Launch) (D : va_G) (cI cZ : ClassId) (z : jZT) (h0 h20 h21 h10 h12 h14 h15 h16 h8 h1 h6 h2 h3 h17 h18 h19 : Nat) (tk9 lt tra : Int) : jMu (S := Unit) l yX10_wipe wsX10_wipe rmX10_wipe [.ref h0] D cI cZ z [(h0, .inr (10, [.ref h20, .ref h21, .ref h10, .ref h12, .ref h14, .ref h15, .ref h16, .ref h8, .ref h1, .ref h6, .ref h2, .ref h3, .ref h17, .ref h18, .int (iI (tk9)), .ref h19, .int (iI (lt)), .long (lI (tra))]))] (fun u => some (.int (iI (tk9)))) (fun u => True) (fun u => [(h0, .inr (10, [.ref h20, .ref h21, .ref h10, .ref h12, .ref h14, .ref h15, .ref h16, .ref h8, .ref h1, .ref h6, .ref h2, .ref h3, .ref h17, .ref h18, .int (iI (0)), .ref h19, .int (iI (lt)), .long (lI (tra))]))]) := by
  refine jMu_of (cc := cX10_wipe) (n := 2) (ret := (some .int)) (by decide) rfl (Nat.le_of_ble_eq_true rfl) ?_
  intro p e s m below meth c A ls args Q hQ F hA hZ hP hK hD hS hl
  obtain ⟨hx, hb, hr, hml, hown, hts, hlocks⟩ := F
  have hown : s.vm.findClass RX10 = some m.cls := hown
  have hl : lv_has ls 2 [(0, .ref h0)] := hl
  have L121 := hts (.fieldLink RX10 121 "TinMouse" "trackCount" "I") (by decide +kernel)
  have UX10 : ∀ w ∈ wsX100, w ∈ wsX10_wipe := fun w h => List.mem_cons_of_mem _ (List.mem_append_right _ h)
  refine lv_aload_n hx hb dX10_wipe_0 rfl (lv_at hl 0 rfl) ?_
  refine va_get (D := D) (ci := 10) (v := .int (iI (tk9))) (C := RX10) (T := TX10) (N := 18) hx hb hts UX10 hown hK hP 0 rfl rfl 14 (by decide) L121 (fun _ h9 => h9) rfl dX10_wipe_1 ?_
  refine lv_istore_n (lv' := [(1, .int (iI (tk9))), (0, .ref h0)]) hx hb dX10_wipe_4 rfl hl (by decide) rfl (fun ls hl => ?_)
  refine lv_aload_n hx hb dX10_wipe_5 rfl (lv_at hl 1 rfl) ?_
  refine lv_iconst (v := iI (0)) hx hb dX10_wipe_6 rfl ?_
  refine va_put (D := D) (ci := 10) (v := .int (iI (0))) (ty := .int) (C := RX10) (T := TX10) (N := 18) hx hb hts UX10 tyX10 tyX10_ok nmX10 hown hK hP hD hS 0 rfl rfl 14 (by decide) L121 (fun _ h9 => h9) rfl rfl rfl rfl (Nat.le_of_ble_eq_true rfl) dX10_wipe_7 (fun H locs hP hD hS => ?_)
  have hP : va_P D vwCl [(h0, .inr (10, [.ref h20, .ref h21, .ref h10, .ref h12, .ref h14, .ref h15, .ref h16, .ref h8, .ref h1, .ref h6, .ref h2, .ref h3, .ref h17, .ref h18, .int (iI (0)), .ref h19, .int (iI (lt)), .long (lI (tra))]))] H := hP
  have hD : va_D A [(h0, .inr (10, [.ref h20, .ref h21, .ref h10, .ref h12, .ref h14, .ref h15, .ref h16, .ref h8, .ref h1, .ref h6, .ref h2, .ref h3, .ref h17, .ref h18, .int (iI (0)), .ref h19, .int (iI (lt)), .long (lI (tra))]))] := hD
  refine lv_iload_n hx hb dX10_wipe_10 rfl (lv_at hl 0 rfl) ?_
  rw [hQ]; exact jm_iret () hx hb hr hlocks hS hP rfl trivial dX10_wipe_11
abbrev rmX10_lot : Room := { frames := 0, cells := 0, slots := 0, locals := 0 }
set_option maxHeartbeats 4000000 in
set_option maxRecDepth 100000 in
theorem c_X10_lot (l : Launch) (D : va_G) (cI cZ : ClassId) (z : jZT) (h0 h20 h21 h10 h12 h14 h15 h16 h8 h1 h6 h2 h3 h17 h18 h19 : Nat) (v tk9 lt tra : Int) : jMu (S := Unit) l yX10_lot wsX10_lot rmX10_lot [.ref h0, .int (iI (v))] D cI cZ z [(h0, .inr (10, [.ref h20, .ref h21, .ref h10, .ref h12, .ref h14, .ref h15, .ref h16, .ref h8, .ref h1, .ref h6, .ref h2, .ref h3, .ref h17, .ref h18, .int (iI (tk9)), .ref h19, .int (iI (lt)), .long (lI (tra))]))] (fun u => some (.int (iI (lt)))) (fun u => True) (fun u => [(h0, .inr (10, [.ref h20, .ref h21, .ref h10, .ref h12, .ref h14, .ref h15, .ref h16, .ref h8, .ref h1, .ref h6, .ref h2, .ref h3, .ref h17, .ref h18, .int (iI (tk9)), .ref h19, .int (iI (v)), .long (lI (tra))]))]) := by
  refine jMu_of (cc := cX10_lot) (n := 3) (ret := (some .int)) (by decide) rfl (Nat.le_of_ble_eq_true rfl) ?_
  intro p e s m below meth c A ls args Q hQ F hA hZ hP hK hD hS hl
  obtain ⟨hx, hb, hr, hml, hown, hts, hlocks⟩ := F
  have hown : s.vm.findClass RX10 = some m.cls := hown
  have hl : lv_has ls 3 [(0, .ref h0), (1, .int (iI (v)))] := hl
  have L103 := hts (.fieldLink RX10 103 "TinMouse" "lot" "I") (by decide +kernel)
  have UX10 : ∀ w ∈ wsX100, w ∈ wsX10_lot := fun w h => List.mem_cons_of_mem _ (List.mem_append_right _ h)
  refine lv_aload_n hx hb dX10_lot_0 rfl (lv_at hl 0 rfl) ?_
  refine va_get (D := D) (ci := 10) (v := .int (iI (lt))) (C := RX10) (T := TX10) (N := 18) hx hb hts UX10 hown hK hP 0 rfl rfl 16 (by decide) L103 (fun _ h9 => h9) rfl dX10_lot_1 ?_
  refine lv_istore_n (lv' := [(2, .int (iI (lt))), (0, .ref h0), (1, .int (iI (v)))]) hx hb dX10_lot_4 rfl hl (by decide) rfl (fun ls hl => ?_)
  refine lv_aload_n hx hb dX10_lot_5 rfl (lv_at hl 1 rfl) ?_
  refine lv_iload_n hx hb dX10_lot_6 rfl (lv_at hl 2 rfl) ?_
  refine va_put (D := D) (ci := 10) (v := .int (iI (v))) (ty := .int) (C := RX10) (T := TX10) (N := 18) hx hb hts UX10 tyX10 tyX10_ok nmX10 hown hK hP hD hS 0 rfl rfl 16 (by decide) L103 (fun _ h9 => h9) rfl rfl rfl rfl (Nat.le_of_ble_eq_true rfl) dX10_lot_7 (fun H locs hP hD hS => ?_)
  have hP : va_P D vwCl [(h0, .inr (10, [.ref h20, .ref h21, .ref h10, .ref h12, .ref h14, .ref h15, .ref h16, .ref h8, .ref h1, .ref h6, .ref h2, .ref h3, .ref h17, .ref h18, .int (iI (tk9)), .ref h19, .int (iI (v)), .long (lI (tra))]))] H := hP
  have hD : va_D A [(h0, .inr (10, [.ref h20, .ref h21, .ref h10, .ref h12, .ref h14, .ref h15, .ref h16, .ref h8, .ref h1, .ref h6, .ref h2, .ref h3, .ref h17, .ref h18, .int (iI (tk9)), .ref h19, .int (iI (v)), .long (lI (tra))]))] := hD
  refine lv_iload_n hx hb dX10_lot_10 rfl (lv_at hl 0 rfl) ?_
  rw [hQ]; exact jm_iret () hx hb hr hlocks hS hP rfl trivial dX10_lot_11
abbrev rmX10_trace : Room := { frames := 0, cells := 0, slots := 0, locals := 0 }
set_option maxHeartbeats 4000000 in
set_option maxRecDepth 100000 in
theorem c_X10_trace (l : Launch) (D : va_G) (cI cZ : ClassId) (z : jZT) (h0 h20 h21 h10 h12 h14 h15 h16 h8 h1 h6 h2 h3 h17 h18 h19 : Nat) (tk9 lt tra : Int) : jRd l yX10_trace wsX10_trace rmX10_trace [.ref h0] D cI cZ z [(h0, .inr (10, [.ref h20, .ref h21, .ref h10, .ref h12, .ref h14, .ref h15, .ref h16, .ref h8, .ref h1, .ref h6, .ref h2, .ref h3, .ref h17, .ref h18, .int (iI (tk9)), .ref h19, .int (iI (lt)), .long (lI (tra))]))] (some (.long (lI (tra)))) := by
  refine jRd_of (cc := cX10_trace) (n := 1) (ret := (some .long)) (by decide) rfl (Nat.le_of_ble_eq_true rfl) ?_
  intro p e s m below meth c A ls args Q hQ F hA hZ hP hK hD hS hl
  obtain ⟨hx, hb, hr, hml, hown, hts, hlocks⟩ := F
  have hown : s.vm.findClass RX10 = some m.cls := hown
  have hl : lv_has ls 1 [(0, .ref h0)] := hl
  have L356 := hts (.fieldLink RX10 356 "TinMouse" "trace" "J") (by decide +kernel)
  have UX10 : ∀ w ∈ wsX100, w ∈ wsX10_trace := fun w h => List.mem_cons_of_mem _ (List.mem_append_right _ h)
  refine lv_aload_n hx hb dX10_trace_0 rfl (lv_at hl 0 rfl) ?_
  refine va_get (D := D) (ci := 10) (v := .long (lI (tra))) (C := RX10) (T := TX10) (N := 18) hx hb hts UX10 hown hK hP 0 rfl rfl 17 (by decide) L356 (fun _ h9 => h9) rfl dX10_trace_1 ?_
  rw [hQ]; exact jr_lret hx hb hr hlocks rfl dX10_trace_4
abbrev rmX10_cell : Room := { frames := 1, cells := 0, slots := 0, locals := 22 }
set_option maxHeartbeats 4000000 in
set_option maxRecDepth 100000 in
theorem c_X10_cell (l : Launch) (D : va_G) (cI cZ : ClassId) (z : jZT) (h0 h20 h21 h10 h12 h14 h15 h16 h8 h1 h6 h2 h3 h17 h18 h19 h11 : Nat) (x y tk9 lt tra Wi Hi bl sc sd no tu be sp : Int) (g : Int → Int) (hW : 3 ≤ Wi ∧ Wi ≤ 16) (hH : 3 ≤ Hi ∧ Hi ≤ 16) (hg : ∀ j : Int, 0 ≤ j → j < 256 → 0 ≤ g j ∧ g j ≤ 2) (hx : -2147483648 ≤ x ∧ x < 2147483648) (hy : -2147483648 ≤ y ∧ y < 2147483648) : jRd l yX10_cell wsX10_cell rmX10_cell [.ref h0, .int (iI (x)), .int (iI (y))] D cI cZ z [(h0, .inr (10, [.ref h20, .ref h21, .ref h10, .ref h12, .ref h14, .ref h15, .ref h16, .ref h8, .ref h1, .ref h6, .ref h2, .ref h3, .ref h17, .ref h18, .int (iI (tk9)), .ref h19, .int (iI (lt)), .long (lI (tra))])), (h10, .inr (7, [.ref h11, .int (iI (Wi)), .int (iI (Hi)), .int (iI (bl)), .int (iI (sc)), .int (iI (sd)), .int (iI (no)), .int (iI (tu)), .int (iI (be)), .int (iI (sp))])), (h11, .inl (cI, 256, .inl (aI g)))] (some (.int (iI (celF Wi Hi g x y)))) := by
  refine jRd_of (cc := cX10_cell) (n := 3) (ret := (some .int)) (by decide) rfl (Nat.le_of_ble_eq_true rfl) ?_
  intro p e s m below meth c A ls args Q hQ F hA hZ hP hK hD hS hl
  obtain ⟨hx, hb, hr, hml, hown, hts, hlocks⟩ := F
  have hown : s.vm.findClass RX10 = some m.cls := hown
  have hl : lv_has ls 3 [(0, .ref h0), (1, .int (iI (x))), (2, .int (iI (y)))] := hl
  have L28 := hts (.fieldLink RX10 28 "TinMouse" "table" "LTinMouse$Table;") (by decide +kernel)
  have UX10 : ∀ w ∈ wsX100, w ∈ wsX10_cell := fun w h => List.mem_cons_of_mem _ (List.mem_append_left _ (List.mem_append_right _ h))
  refine lv_aload_n hx hb dX10_cell_0 rfl (lv_at hl 0 rfl) ?_
  refine va_get (D := D) (ci := 10) (v := .ref h10) (C := RX10) (T := TX10) (N := 18) hx hb hts UX10 hown hK hP 0 rfl rfl 2 (by decide) L28 (fun _ h9 => h9) rfl dX10_cell_1 ?_
  refine lv_iload_n hx hb dX10_cell_4 rfl (lv_at hl 1 rfl) ?_
  refine lv_iload_n hx hb dX10_cell_5 rfl (lv_at hl 2 rfl) ?_
  refine j_rd (va_runV (As := [.int (iI (x)), .int (iI (y))]) (rest := []) ⟨hx, hb, hml, hown, hts⟩ (c_X7_has l D cI cZ z h10 h11 x y Wi Hi bl sc sd no tu be sp g (by first | assumption | omega) (by first | assumption | omega) (by first | assumption | omega) (by first | assumption | omega) s.heap.size) (cwV 2 hts gX10_cell_X7_has rfl rfl rfl hvX7_has ⟨Nat.le_of_ble_eq_true rfl, Nat.le_of_ble_eq_true rfl⟩) (j_preV hP hD hK hS hZ hA [1, 2] rfl rfl 1 rfl rfl) rfl rfl hl.1 rfl (lv_room (Nat.le_of_ble_eq_true rfl)) dX10_cell_6 ⟨Nat.zero_le _, Nat.zero_le _⟩) ?_
  refine j_ifeq_b (tgt := 31) hx hb dX10_cell_9 (by decide) (fun c_9 => ?_) (fun c_9 => ?_)
  · refine lv_iconst (v := iI (-1)) hx hb dX10_cell_31 rfl ?_
    rw [hQ]; exact jr_iret hx hb hr hlocks (jo_i (by unfold celF; first | (rw [if_pos (by assumption)]; done) | (rw [if_neg (by simp [*])]; done))) dX10_cell_32
  · have hin := inT_cell hW hH c_9
    have hwh := wh_rng hW hH
    refine lv_aload_n hx hb dX10_cell_12 rfl (lv_at hl 0 rfl) ?_
    refine va_get (D := D) (ci := 10) (v := .ref h10) (C := RX10) (T := TX10) (N := 18) hx hb hts UX10 hown hK hP 0 rfl rfl 2 (by decide) L28 (fun _ h9 => h9) rfl dX10_cell_13 ?_
    refine lv_aload_n hx hb dX10_cell_16 rfl (lv_at hl 0 rfl) ?_
    refine va_get (D := D) (ci := 10) (v := .ref h10) (C := RX10) (T := TX10) (N := 18) hx hb hts UX10 hown hK hP 0 rfl rfl 2 (by decide) L28 (fun _ h9 => h9) rfl dX10_cell_17 ?_
    refine lv_iload_n hx hb dX10_cell_20 rfl (lv_at hl 1 rfl) ?_
    refine lv_iload_n hx hb dX10_cell_21 rfl (lv_at hl 2 rfl) ?_
    refine j_rd (va_runV (As := [.int (iI (x)), .int (iI (y))]) (rest := [.ref h10]) ⟨hx, hb, hml, hown, hts⟩ (c_X7_numberOf l D cI cZ z h10 h11 x y Wi Hi bl sc sd no tu be sp g  s.heap.size) (cwV 2 hts gX10_cell_X7_numberOf rfl rfl rfl hvX7_numberOf ⟨Nat.le_of_ble_eq_true rfl, Nat.le_of_ble_eq_true rfl⟩) (j_preV hP hD hK hS hZ hA [1, 2] rfl rfl 1 rfl rfl) rfl rfl hl.1 rfl (lv_room (Nat.le_of_ble_eq_true rfl)) dX10_cell_22 ⟨Nat.zero_le _, Nat.zero_le _⟩) ?_
    refine j_rd (va_runV (As := [.int (iI (Wi * y + x))]) (rest := []) ⟨hx, hb, hml, hown, hts⟩ (c_X7_kindOf l D cI cZ z h10 h11 (Wi * y + x) Wi Hi bl sc sd no tu be sp g (by first | assumption | omega) (by first | assumption | omega) (by first | assumption | omega) s.heap.size) (cwV 1 hts gX10_cell_X7_kindOf rfl rfl rfl hvX7_kindOf ⟨Nat.le_of_ble_eq_true rfl, Nat.le_of_ble_eq_true rfl⟩) (j_preV hP hD hK hS hZ hA [1, 2] rfl rfl 1 rfl rfl) rfl rfl hl.1 rfl (lv_room (Nat.le_of_ble_eq_true rfl)) dX10_cell_25 ⟨Nat.zero_le _, Nat.zero_le _⟩) ?_
    refine lv_goto (tgt := 32) hx hb dX10_cell_28 (by decide) ?_
    rw [hQ]; exact jr_iret hx hb hr hlocks (jo_i (by unfold celF; first | (rw [if_pos (by assumption)]; done) | (rw [if_neg (by simp [*])]; done))) dX10_cell_32
theorem hsX10_cell : yX10_cell.cls ≠ "java/lang/invoke/MethodHandle" ∧ yX10_cell.cls ≠ "java/lang/invoke/VarHandle" ∧ (parseMethodDescriptor yX10_cell.desc).map (fun d => d.parameters.length) = some 2 := by decide +kernel
theorem hvX10_cell : yX10_cell.cls = RX10 ∧ yX10_cell.cls ≠ "java/lang/invoke/MethodHandle" ∧ yX10_cell.cls ≠ "java/lang/invoke/VarHandle" ∧ (parseMethodDescriptor yX10_cell.desc).map (fun d => d.parameters.length) = some 2 := ⟨rfl, hsX10_cell⟩
abbrev rmX10_isStart : Room := { frames := 2, cells := 0, slots := 0, locals := 44 }
set_option maxHeartbeats 4000000 in
set_option maxRecDepth 100000 in
theorem c_X10_isStart (l : Launch) (D : va_G) (cI cZ : ClassId) (z : jZT) (h0 h20 h21 h10 h12 h14 h15 h16 h8 h1 h6 h2 h3 h17 h18 h19 h11 : Nat) (x y d tk9 lt tra Wi Hi bl sc sd no tu be sp : Int) (g : Int → Int) (hW : 3 ≤ Wi ∧ Wi ≤ 16) (hH : 3 ≤ Hi ∧ Hi ≤ 16) (hg : ∀ j : Int, 0 ≤ j → j < 256 → 0 ≤ g j ∧ g j ≤ 2) (hx : -2147483648 ≤ x ∧ x < 2147483648) (hy : -2147483648 ≤ y ∧ y < 2147483648) (hd : -2147483648 ≤ d ∧ d < 2147483648) : jRd l yX10_isStart wsX10_isStart rmX10_isStart [.ref h0, .int (iI (x)), .int (iI (y)), .int (iI (d))] D cI cZ z [(h0, .inr (10, [.ref h20, .ref h21, .ref h10, .ref h12, .ref h14, .ref h15, .ref h16, .ref h8, .ref h1, .ref h6, .ref h2, .ref h3, .ref h17, .ref h18, .int (iI (tk9)), .ref h19, .int (iI (lt)), .long (lI (tra))])), (h10, .inr (7, [.ref h11, .int (iI (Wi)), .int (iI (Hi)), .int (iI (bl)), .int (iI (sc)), .int (iI (sd)), .int (iI (no)), .int (iI (tu)), .int (iI (be)), .int (iI (sp))])), (h11, .inl (cI, 256, .inl (aI g)))] (some (.int (iI (bI (isSt Wi Hi g x y d))))) := by
  refine jRd_of (cc := cX10_isStart) (n := 4) (ret := (some .boolean)) (by decide) rfl (Nat.le_of_ble_eq_true rfl) ?_
  intro p e s m below meth c A ls args Q hQ F hA hZ hP hK hD hS hl
  obtain ⟨hx, hb, hr, hml, hown, hts, hlocks⟩ := F
  have hown : s.vm.findClass RX10 = some m.cls := hown
  have hl : lv_has ls 4 [(0, .ref h0), (1, .int (iI (x))), (2, .int (iI (y))), (3, .int (iI (d)))] := hl
  have hcr := celF_rng (W := Wi) (H := Hi) hg x y
  refine lv_iload_n hx hb dX10_isStart_0 rfl (lv_at hl 3 rfl) ?_
  refine j_if_lt (tgt := 23) hx hb (by omega) dX10_isStart_1 (by decide) (fun c_1 => ?_) (fun c_1 => ?_)
  · refine lv_iconst (v := iI (0)) hx hb dX10_isStart_23 rfl ?_
    rw [hQ]; exact jr_zret hx hb hr hlocks jn_0 (jo_i (by unfold isSt; first | (rw [decide_eq_true (by omega)]; rfl) | (rw [decide_eq_false (by omega)]; rfl))) dX10_isStart_24
  · refine lv_iload_n hx hb dX10_isStart_4 rfl (lv_at hl 3 rfl) ?_
    refine lv_bipush (v := iI (7)) hx hb dX10_isStart_5 (by decide) ?_
    refine j_icmp_gt (tgt := 23) hx hb (by omega) dX10_isStart_7 (by decide) (fun c_7 => ?_) (fun c_7 => ?_)
    · refine lv_iconst (v := iI (0)) hx hb dX10_isStart_23 rfl ?_
      rw [hQ]; exact jr_zret hx hb hr hlocks jn_0 (jo_i (by unfold isSt; first | (rw [decide_eq_true (by omega)]; rfl) | (rw [decide_eq_false (by omega)]; rfl))) dX10_isStart_24
    · refine lv_aload_n hx hb dX10_isStart_10 rfl (lv_at hl 0 rfl) ?_
      refine lv_iload_n hx hb dX10_isStart_11 rfl (lv_at hl 1 rfl) ?_
      refine lv_iload_n hx hb dX10_isStart_12 rfl (lv_at hl 2 rfl) ?_
      refine j_rd (va_runV (As := [.int (iI (x)), .int (iI (y))]) (rest := []) ⟨hx, hb, hml, hown, hts⟩ (c_X10_cell l D cI cZ z h0 h20 h21 h10 h12 h14 h15 h16 h8 h1 h6 h2 h3 h17 h18 h19 h11 x y tk9 lt tra Wi Hi bl sc sd no tu be sp g (by first | assumption | omega) (by first | assumption | omega) (by first | assumption | omega) (by first | assumption | omega) (by first | assumption | omega) s.heap.size) (cwV 2 hts gX10_isStart_X10_cell rfl rfl rfl hvX10_cell ⟨Nat.le_of_ble_eq_true rfl, Nat.le_of_ble_eq_true rfl⟩) (j_preV hP hD hK hS hZ hA [0, 1, 2] rfl rfl 0 rfl rfl) rfl rfl hl.1 rfl (lv_room (Nat.le_of_ble_eq_true rfl)) dX10_isStart_13 ⟨Nat.zero_le _, Nat.zero_le _⟩) ?_
      refine j_if_ne (tgt := 23) hx hb (by omega) dX10_isStart_16 (by decide) (fun c_16 => ?_) (fun c_16 => ?_)
      · refine lv_iconst (v := iI (0)) hx hb dX10_isStart_23 rfl ?_
        rw [hQ]; exact jr_zret hx hb hr hlocks jn_0 (jo_i (by unfold isSt; first | (rw [decide_eq_true (by omega)]; rfl) | (rw [decide_eq_false (by omega)]; rfl))) dX10_isStart_24
      · refine lv_iconst (v := iI (1)) hx hb dX10_isStart_19 rfl ?_
        refine lv_goto (tgt := 24) hx hb dX10_isStart_20 (by decide) ?_
        rw [hQ]; exact jr_zret hx hb hr hlocks jn_1 (jo_i (by unfold isSt; first | (rw [decide_eq_true (by omega)]; rfl) | (rw [decide_eq_false (by omega)]; rfl))) dX10_isStart_24
theorem hsX10_isOver : yX10_isOver.cls ≠ "java/lang/invoke/MethodHandle" ∧ yX10_isOver.cls ≠ "java/lang/invoke/VarHandle" ∧ (parseMethodDescriptor yX10_isOver.desc).map (fun d => d.parameters.length) = some 0 := by decide +kernel
theorem hvX10_isOver : yX10_isOver.cls = RX10 ∧ yX10_isOver.cls ≠ "java/lang/invoke/MethodHandle" ∧ yX10_isOver.cls ≠ "java/lang/invoke/VarHandle" ∧ (parseMethodDescriptor yX10_isOver.desc).map (fun d => d.parameters.length) = some 0 := ⟨rfl, hsX10_isOver⟩
abbrev rmX10_wind : Room := { frames := 4, cells := 0, slots := 0, locals := 84 }
set_option maxHeartbeats 4000000 in
set_option maxRecDepth 100000 in
theorem c_X10_wind (l : Launch) (D : va_G) (cI cZ : ClassId) (z : jZT) (h0 h20 h21 h10 h12 h14 h15 h16 h8 h1 h6 h2 h3 h17 h18 h19 h11 : Nat) (v tk9 lt tra nk nd nb nsp nst nmo ntu nri nla nro Wi Hi bl sc sd no tu be sp : Int) (g : Int → Int) (hW : 3 ≤ Wi ∧ Wi ≤ 16) (hH : 3 ≤ Hi ∧ Hi ≤ 16) (hg : ∀ j : Int, 0 ≤ j → j < 256 → 0 ≤ g j ∧ g j ≤ 2) (hNow : NowI Wi Hi nk nd nb nsp nro) (hv : -2147483648 ≤ v ∧ v < 2147483648) : jMu (S := Int × Int) l yX10_wind wsX10_wind rmX10_wind [.ref h0, .int (iI (v))] D cI cZ z [(h0, .inr (10, [.ref h20, .ref h21, .ref h10, .ref h12, .ref h14, .ref h15, .ref h16, .ref h8, .ref h1, .ref h6, .ref h2, .ref h3, .ref h17, .ref h18, .int (iI (tk9)), .ref h19, .int (iI (lt)), .long (lI (tra))])), (h14, .inr (4, [.int (iI (nk)), .int (iI (nd)), .int (iI (nb)), .int (iI (nsp)), .int (iI (nst)), .int (iI (nmo)), .int (iI (ntu)), .int (iI (nri)), .int (iI (nla)), .int (iI (nro))])), (h10, .inr (7, [.ref h11, .int (iI (Wi)), .int (iI (Hi)), .int (iI (bl)), .int (iI (sc)), .int (iI (sd)), .int (iI (no)), .int (iI (tu)), .int (iI (be)), .int (iI (sp))])), (h11, .inl (cI, 256, .inl (aI g)))] (fun u => some (.int (iI (u.2)))) (fun u => if v < 0 ∨ 999 < v then u.2 = -1 ∧ u.1 = nsp else if stI Wi Hi g nk nsp = 2 then u.2 = -2 ∧ u.1 = nsp else u.2 = nsp ∧ u.1 = v) (fun u => [(h0, .inr (10, [.ref h20, .ref h21, .ref h10, .ref h12, .ref h14, .ref h15, .ref h16, .ref h8, .ref h1, .ref h6, .ref h2, .ref h3, .ref h17, .ref h18, .int (iI (tk9)), .ref h19, .int (iI (lt)), .long (lI (tra))])), (h14, .inr (4, [.int (iI (nk)), .int (iI (nd)), .int (iI (nb)), .int (iI (u.1)), .int (iI (nst)), .int (iI (nmo)), .int (iI (ntu)), .int (iI (nri)), .int (iI (nla)), .int (iI (nro))])), (h10, .inr (7, [.ref h11, .int (iI (Wi)), .int (iI (Hi)), .int (iI (bl)), .int (iI (sc)), .int (iI (sd)), .int (iI (no)), .int (iI (tu)), .int (iI (be)), .int (iI (sp))])), (h11, .inl (cI, 256, .inl (aI g)))]) := by
  refine jMu_of (cc := cX10_wind) (n := 3) (ret := (some .int)) (by decide) rfl (Nat.le_of_ble_eq_true rfl) ?_
  intro p e s m below meth c A ls args Q hQ F hA hZ hP hK hD hS hl
  obtain ⟨hx, hb, hr, hml, hown, hts, hlocks⟩ := F
  have hown : s.vm.findClass RX10 = some m.cls := hown
  have hl : lv_has ls 3 [(0, .ref h0), (1, .int (iI (v)))] := hl
  have L38 := hts (.fieldLink RX10 38 "TinMouse" "now" "LTinMouse$Now;") (by decide +kernel)
  have L180 := hts (.fieldLink RX10 180 "TinMouse$Now" "spring" "I") (by decide +kernel)
  have UX10 : ∀ w ∈ wsX100, w ∈ wsX10_wind := fun w h => List.mem_cons_of_mem _ (List.mem_append_left _ (List.mem_append_left _ (List.mem_append_right _ h)))
  have UX4 : ∀ w ∈ wsX40, w ∈ wsX10_wind := fun w h => List.mem_cons_of_mem _ (List.mem_append_left _ (List.mem_append_right _ h))
  refine lv_iload_n hx hb dX10_wind_0 rfl (lv_at hl 1 rfl) ?_
  refine j_if_lt (tgt := 11) hx hb (by omega) dX10_wind_1 (by decide) (fun c_1 => ?_) (fun c_1 => ?_)
  · refine lv_iconst (v := iI (-1)) hx hb dX10_wind_11 rfl ?_
    rw [hQ]; exact jm_iret (nsp, -1) hx hb hr hlocks hS hP rfl (by (try dsimp only); first | (rw [if_pos (by omega)]; exact ⟨rfl, rfl⟩) | (rw [if_neg (by omega)]; first | (rw [if_pos (by first | exact c_17 | exact of_decide_eq_true c_17 | omega)]; exact ⟨rfl, rfl⟩) | (rw [if_neg (by first | exact c_17 | exact of_decide_eq_false c_17 | omega)]; exact ⟨rfl, rfl⟩))) dX10_wind_12
  · refine lv_iload_n hx hb dX10_wind_4 rfl (lv_at hl 1 rfl) ?_
    refine lv_sipush (v := iI (999)) hx hb dX10_wind_5 (by decide) ?_
    refine j_icmp_le (tgt := 13) hx hb (by omega) dX10_wind_8 (by decide) (fun c_8 => ?_) (fun c_8 => ?_)
    · refine lv_aload_n hx hb dX10_wind_13 rfl (lv_at hl 0 rfl) ?_
      refine j_rd (va_runV (As := []) (rest := []) ⟨hx, hb, hml, hown, hts⟩ (c_X10_isOver l D cI cZ z h0 h20 h21 h10 h12 h14 h15 h16 h8 h1 h6 h2 h3 h17 h18 h19 h11 tk9 lt tra nk nd nb nsp nst nmo ntu nri nla nro Wi Hi bl sc sd no tu be sp g (by first | assumption | omega) (by first | assumption | omega) (by first | assumption | omega) (by first | assumption | omega) s.heap.size) (cwV 0 hts gX10_wind_X10_isOver rfl rfl rfl hvX10_isOver ⟨Nat.le_of_ble_eq_true rfl, Nat.le_of_ble_eq_true rfl⟩) (j_preV hP hD hK hS hZ hA [0, 1, 2, 3] rfl rfl 0 rfl rfl) rfl rfl hl.1 rfl (lv_room (Nat.le_of_ble_eq_true rfl)) dX10_wind_14 ⟨Nat.zero_le _, Nat.zero_le _⟩) ?_
      refine j_ifeq_d (tgt := 23) hx hb dX10_wind_17 (by decide) (fun c_17 => ?_) (fun c_17 => ?_)
      · refine lv_aload_n hx hb dX10_wind_23 rfl (lv_at hl 0 rfl) ?_
        refine va_get (D := D) (ci := 10) (v := .ref h14) (C := RX10) (T := TX10) (N := 18) hx hb hts UX10 hown hK hP 0 rfl rfl 4 (by decide) L38 (fun _ h9 => h9) rfl dX10_wind_24 ?_
        refine va_get (D := D) (ci := 4) (v := .int (iI (nsp))) (C := RX4) (T := TX4) (N := 10) hx hb hts UX4 hown hK hP 1 rfl rfl 3 (by decide) L180 (fun _ h9 => h9) rfl dX10_wind_27 ?_
        refine lv_istore_n (lv' := [(2, .int (iI (nsp))), (0, .ref h0), (1, .int (iI (v)))]) hx hb dX10_wind_30 rfl hl (by decide) rfl (fun ls hl => ?_)
        refine lv_aload_n hx hb dX10_wind_31 rfl (lv_at hl 1 rfl) ?_
        refine va_get (D := D) (ci := 10) (v := .ref h14) (C := RX10) (T := TX10) (N := 18) hx hb hts UX10 hown hK hP 0 rfl rfl 4 (by decide) L38 (fun _ h9 => h9) rfl dX10_wind_32 ?_
        refine lv_iload_n hx hb dX10_wind_35 rfl (lv_at hl 2 rfl) ?_
        refine va_put (D := D) (ci := 4) (v := .int (iI (v))) (ty := .int) (C := RX4) (T := TX4) (N := 10) hx hb hts UX4 tyX4 tyX4_ok nmX4 hown hK hP hD hS 1 rfl rfl 3 (by decide) L180 (fun _ h9 => h9) rfl rfl rfl rfl (Nat.le_of_ble_eq_true rfl) dX10_wind_36 (fun H locs hP hD hS => ?_)
        have hP : va_P D vwCl [(h0, .inr (10, [.ref h20, .ref h21, .ref h10, .ref h12, .ref h14, .ref h15, .ref h16, .ref h8, .ref h1, .ref h6, .ref h2, .ref h3, .ref h17, .ref h18, .int (iI (tk9)), .ref h19, .int (iI (lt)), .long (lI (tra))])), (h14, .inr (4, [.int (iI (nk)), .int (iI (nd)), .int (iI (nb)), .int (iI (v)), .int (iI (nst)), .int (iI (nmo)), .int (iI (ntu)), .int (iI (nri)), .int (iI (nla)), .int (iI (nro))])), (h10, .inr (7, [.ref h11, .int (iI (Wi)), .int (iI (Hi)), .int (iI (bl)), .int (iI (sc)), .int (iI (sd)), .int (iI (no)), .int (iI (tu)), .int (iI (be)), .int (iI (sp))])), (h11, .inl (cI, 256, .inl (aI g)))] H := hP
        have hD : va_D A [(h0, .inr (10, [.ref h20, .ref h21, .ref h10, .ref h12, .ref h14, .ref h15, .ref h16, .ref h8, .ref h1, .ref h6, .ref h2, .ref h3, .ref h17, .ref h18, .int (iI (tk9)), .ref h19, .int (iI (lt)), .long (lI (tra))])), (h14, .inr (4, [.int (iI (nk)), .int (iI (nd)), .int (iI (nb)), .int (iI (v)), .int (iI (nst)), .int (iI (nmo)), .int (iI (ntu)), .int (iI (nri)), .int (iI (nla)), .int (iI (nro))])), (h10, .inr (7, [.ref h11, .int (iI (Wi)), .int (iI (Hi)), .int (iI (bl)), .int (iI (sc)), .int (iI (sd)), .int (iI (no)), .int (iI (tu)), .int (iI (be)), .int (iI (sp))])), (h11, .inl (cI, 256, .inl (aI g)))] := hD
        refine lv_iload_n hx hb dX10_wind_39 rfl (lv_at hl 0 rfl) ?_
        rw [hQ]; exact jm_iret (v, nsp) hx hb hr hlocks hS hP rfl (by (try dsimp only); first | (rw [if_pos (by omega)]; exact ⟨rfl, rfl⟩) | (rw [if_neg (by omega)]; first | (rw [if_pos (by first | exact c_17 | exact of_decide_eq_true c_17 | omega)]; exact ⟨rfl, rfl⟩) | (rw [if_neg (by first | exact c_17 | exact of_decide_eq_false c_17 | omega)]; exact ⟨rfl, rfl⟩))) dX10_wind_40
      · refine lv_bipush (v := iI (-2)) hx hb dX10_wind_20 (by decide) ?_
        rw [hQ]; exact jm_iret (nsp, -2) hx hb hr hlocks hS hP rfl (by (try dsimp only); first | (rw [if_pos (by omega)]; exact ⟨rfl, rfl⟩) | (rw [if_neg (by omega)]; first | (rw [if_pos (by first | exact c_17 | exact of_decide_eq_true c_17 | omega)]; exact ⟨rfl, rfl⟩) | (rw [if_neg (by first | exact c_17 | exact of_decide_eq_false c_17 | omega)]; exact ⟨rfl, rfl⟩))) dX10_wind_22
    · refine lv_iconst (v := iI (-1)) hx hb dX10_wind_11 rfl ?_
      rw [hQ]; exact jm_iret (nsp, -1) hx hb hr hlocks hS hP rfl (by (try dsimp only); first | (rw [if_pos (by omega)]; exact ⟨rfl, rfl⟩) | (rw [if_neg (by omega)]; first | (rw [if_pos (by first | exact c_17 | exact of_decide_eq_true c_17 | omega)]; exact ⟨rfl, rfl⟩) | (rw [if_neg (by first | exact c_17 | exact of_decide_eq_false c_17 | omega)]; exact ⟨rfl, rfl⟩))) dX10_wind_12
theorem hsX10_isStart : yX10_isStart.cls ≠ "java/lang/invoke/MethodHandle" ∧ yX10_isStart.cls ≠ "java/lang/invoke/VarHandle" ∧ (parseMethodDescriptor yX10_isStart.desc).map (fun d => d.parameters.length) = some 3 := by decide +kernel
theorem hvX10_isStart : yX10_isStart.cls = RX10 ∧ yX10_isStart.cls ≠ "java/lang/invoke/MethodHandle" ∧ yX10_isStart.cls ≠ "java/lang/invoke/VarHandle" ∧ (parseMethodDescriptor yX10_isStart.desc).map (fun d => d.parameters.length) = some 3 := ⟨rfl, hsX10_isStart⟩
abbrev rmX10_put : Room := { frames := 3, cells := 0, slots := 0, locals := 67 }
set_option maxHeartbeats 4000000 in
set_option maxRecDepth 100000 in
theorem c_X10_put (l : Launch) (D : va_G) (cI cZ : ClassId) (z : jZT) (h0 h20 h21 h10 h12 h14 h15 h16 h8 h1 h6 h2 h3 h17 h18 h19 h11 : Nat) (x y d tk9 lt tra nk nd nb nsp nst nmo ntu nri nla nro Wi Hi bl sc sd no tu be sp : Int) (g : Int → Int) (hW : 3 ≤ Wi ∧ Wi ≤ 16) (hH : 3 ≤ Hi ∧ Hi ≤ 16) (hg : ∀ j : Int, 0 ≤ j → j < 256 → 0 ≤ g j ∧ g j ≤ 2) (hx : -2147483648 ≤ x ∧ x < 2147483648) (hy : -2147483648 ≤ y ∧ y < 2147483648) (hd : -2147483648 ≤ d ∧ d < 2147483648) : jMu (S := Int × Int × Int × Int × Int) l yX10_put wsX10_put rmX10_put [.ref h0, .int (iI (x)), .int (iI (y)), .int (iI (d))] D cI cZ z [(h0, .inr (10, [.ref h20, .ref h21, .ref h10, .ref h12, .ref h14, .ref h15, .ref h16, .ref h8, .ref h1, .ref h6, .ref h2, .ref h3, .ref h17, .ref h18, .int (iI (tk9)), .ref h19, .int (iI (lt)), .long (lI (tra))])), (h14, .inr (4, [.int (iI (nk)), .int (iI (nd)), .int (iI (nb)), .int (iI (nsp)), .int (iI (nst)), .int (iI (nmo)), .int (iI (ntu)), .int (iI (nri)), .int (iI (nla)), .int (iI (nro))])), (h10, .inr (7, [.ref h11, .int (iI (Wi)), .int (iI (Hi)), .int (iI (bl)), .int (iI (sc)), .int (iI (sd)), .int (iI (no)), .int (iI (tu)), .int (iI (be)), .int (iI (sp))])), (h11, .inl (cI, 256, .inl (aI g)))] (fun u => some (.int (iI (u.2.2.2.2)))) (fun u => if isSt Wi Hi g x y d = true then u.2.2.2.2 = 1 ∧ u.1 = Wi * y + x ∧ u.2.1 = d ∧ u.2.2.1 = 0 ∧ u.2.2.2.1 = 0 else u.2.2.2.2 = -1 ∧ u.1 = nk ∧ u.2.1 = nd ∧ u.2.2.1 = nb ∧ u.2.2.2.1 = nro) (fun u => [(h0, .inr (10, [.ref h20, .ref h21, .ref h10, .ref h12, .ref h14, .ref h15, .ref h16, .ref h8, .ref h1, .ref h6, .ref h2, .ref h3, .ref h17, .ref h18, .int (iI (tk9)), .ref h19, .int (iI (lt)), .long (lI (tra))])), (h14, .inr (4, [.int (iI (u.1)), .int (iI (u.2.1)), .int (iI (u.2.2.1)), .int (iI (nsp)), .int (iI (nst)), .int (iI (nmo)), .int (iI (ntu)), .int (iI (nri)), .int (iI (nla)), .int (iI (u.2.2.2.1))])), (h10, .inr (7, [.ref h11, .int (iI (Wi)), .int (iI (Hi)), .int (iI (bl)), .int (iI (sc)), .int (iI (sd)), .int (iI (no)), .int (iI (tu)), .int (iI (be)), .int (iI (sp))])), (h11, .inl (cI, 256, .inl (aI g)))]) := by
  refine jMu_of (cc := cX10_put) (n := 4) (ret := (some .int)) (by decide) rfl (Nat.le_of_ble_eq_true rfl) ?_
  intro p e s m below meth c A ls args Q hQ F hA hZ hP hK hD hS hl
  obtain ⟨hx, hb, hr, hml, hown, hts, hlocks⟩ := F
  have hown : s.vm.findClass RX10 = some m.cls := hown
  have hl : lv_has ls 4 [(0, .ref h0), (1, .int (iI (x))), (2, .int (iI (y))), (3, .int (iI (d)))] := hl
  have L38 := hts (.fieldLink RX10 38 "TinMouse" "now" "LTinMouse$Now;") (by decide +kernel)
  have L28 := hts (.fieldLink RX10 28 "TinMouse" "table" "LTinMouse$Table;") (by decide +kernel)
  have UX10 : ∀ w ∈ wsX100, w ∈ wsX10_put := fun w h => List.mem_cons_of_mem _ (List.mem_append_left _ (List.mem_append_left _ (List.mem_append_right _ h)))
  refine lv_aload_n hx hb dX10_put_0 rfl (lv_at hl 0 rfl) ?_
  refine lv_iload_n hx hb dX10_put_1 rfl (lv_at hl 1 rfl) ?_
  refine lv_iload_n hx hb dX10_put_2 rfl (lv_at hl 2 rfl) ?_
  refine lv_iload_n hx hb dX10_put_3 rfl (lv_at hl 3 rfl) ?_
  refine j_rd (va_runV (As := [.int (iI (x)), .int (iI (y)), .int (iI (d))]) (rest := []) ⟨hx, hb, hml, hown, hts⟩ (c_X10_isStart l D cI cZ z h0 h20 h21 h10 h12 h14 h15 h16 h8 h1 h6 h2 h3 h17 h18 h19 h11 x y d tk9 lt tra Wi Hi bl sc sd no tu be sp g (by first | assumption | omega) (by first | assumption | omega) (by first | assumption | omega) (by first | assumption | omega) (by first | assumption | omega) (by first | assumption | omega) s.heap.size) (cwV 3 hts gX10_put_X10_isStart rfl rfl rfl hvX10_isStart ⟨Nat.le_of_ble_eq_true rfl, Nat.le_of_ble_eq_true rfl⟩) (j_preV hP hD hK hS hZ hA [0, 2, 3] rfl rfl 0 rfl rfl) rfl rfl hl.1 rfl (lv_room (Nat.le_of_ble_eq_true rfl)) dX10_put_4 ⟨Nat.zero_le _, Nat.zero_le _⟩) ?_
  refine j_ifne_b (tgt := 12) hx hb dX10_put_7 (by decide) (fun c_7 => ?_) (fun c_7 => ?_)
  · refine lv_aload_n hx hb dX10_put_12 rfl (lv_at hl 0 rfl) ?_
    refine va_get (D := D) (ci := 10) (v := .ref h14) (C := RX10) (T := TX10) (N := 18) hx hb hts UX10 hown hK hP 0 rfl rfl 4 (by decide) L38 (fun _ h9 => h9) rfl dX10_put_13 ?_
    refine lv_aload_n hx hb dX10_put_16 rfl (lv_at hl 0 rfl) ?_
    refine va_get (D := D) (ci := 10) (v := .ref h10) (C := RX10) (T := TX10) (N := 18) hx hb hts UX10 hown hK hP 0 rfl rfl 2 (by decide) L28 (fun _ h9 => h9) rfl dX10_put_17 ?_
    refine lv_iload_n hx hb dX10_put_20 rfl (lv_at hl 1 rfl) ?_
    refine lv_iload_n hx hb dX10_put_21 rfl (lv_at hl 2 rfl) ?_
    refine j_rd (va_runV (As := [.int (iI (x)), .int (iI (y))]) (rest := [.ref h14]) ⟨hx, hb, hml, hown, hts⟩ (c_X7_numberOf l D cI cZ z h10 h11 x y Wi Hi bl sc sd no tu be sp g  s.heap.size) (cwV 2 hts gX10_put_X7_numberOf rfl rfl rfl hvX7_numberOf ⟨Nat.le_of_ble_eq_true rfl, Nat.le_of_ble_eq_true rfl⟩) (j_preV hP hD hK hS hZ hA [2, 3] rfl rfl 2 rfl rfl) rfl rfl hl.1 rfl (lv_room (Nat.le_of_ble_eq_true rfl)) dX10_put_22 ⟨Nat.zero_le _, Nat.zero_le _⟩) ?_
    refine lv_iload_n hx hb dX10_put_25 rfl (lv_at hl 3 rfl) ?_
    refine j_muv (va_runV (As := [.int (iI (Wi * y + x)), .int (iI (d))]) (rest := []) ⟨hx, hb, hml, hown, hts⟩ (c_X4_stand l D cI cZ z h14 (Wi * y + x) d nk nd nb nsp nst nmo ntu nri nla nro  s.heap.size) (cwV 2 hts gX10_put_X4_stand rfl rfl rfl hvX4_stand ⟨Nat.le_of_ble_eq_true rfl, Nat.le_of_ble_eq_true rfl⟩) (j_preV hP hD hK hS hZ hA [1] rfl rfl 1 rfl rfl) rfl rfl hl.1 rfl (lv_room (Nat.le_of_ble_eq_true rfl)) dX10_put_26 ⟨Nat.zero_le _, Nat.zero_le _⟩) hP hD hS hA [1] rfl (fun _ => rfl) (fun _ H locs hw_26 hP hD hS => ?_)
    have hP : va_P D vwCl [(h0, .inr (10, [.ref h20, .ref h21, .ref h10, .ref h12, .ref h14, .ref h15, .ref h16, .ref h8, .ref h1, .ref h6, .ref h2, .ref h3, .ref h17, .ref h18, .int (iI (tk9)), .ref h19, .int (iI (lt)), .long (lI (tra))])), (h14, .inr (4, [.int (iI ((Wi * y + x))), .int (iI (d)), .int (iI (0)), .int (iI (nsp)), .int (iI (nst)), .int (iI (nmo)), .int (iI (ntu)), .int (iI (nri)), .int (iI (nla)), .int (iI (0))])), (h10, .inr (7, [.ref h11, .int (iI (Wi)), .int (iI (Hi)), .int (iI (bl)), .int (iI (sc)), .int (iI (sd)), .int (iI (no)), .int (iI (tu)), .int (iI (be)), .int (iI (sp))])), (h11, .inl (cI, 256, .inl (aI g)))] H := hP
    have hD : va_D A [(h0, .inr (10, [.ref h20, .ref h21, .ref h10, .ref h12, .ref h14, .ref h15, .ref h16, .ref h8, .ref h1, .ref h6, .ref h2, .ref h3, .ref h17, .ref h18, .int (iI (tk9)), .ref h19, .int (iI (lt)), .long (lI (tra))])), (h14, .inr (4, [.int (iI ((Wi * y + x))), .int (iI (d)), .int (iI (0)), .int (iI (nsp)), .int (iI (nst)), .int (iI (nmo)), .int (iI (ntu)), .int (iI (nri)), .int (iI (nla)), .int (iI (0))])), (h10, .inr (7, [.ref h11, .int (iI (Wi)), .int (iI (Hi)), .int (iI (bl)), .int (iI (sc)), .int (iI (sd)), .int (iI (no)), .int (iI (tu)), .int (iI (be)), .int (iI (sp))])), (h11, .inl (cI, 256, .inl (aI g)))] := hD
    refine lv_iconst (v := iI (1)) hx hb dX10_put_29 rfl ?_
    rw [hQ]; exact jm_iret ((Wi * y + x), d, 0, 0, 1) hx hb hr hlocks hS hP rfl (by (try dsimp only); first | (rw [if_pos (by assumption)]; exact ⟨rfl, rfl, rfl, rfl, rfl⟩) | (rw [if_neg (by simp [*])]; exact ⟨rfl, rfl, rfl, rfl, rfl⟩)) dX10_put_30
  · refine lv_iconst (v := iI (-1)) hx hb dX10_put_10 rfl ?_
    rw [hQ]; exact jm_iret (nk, nd, nb, nro, -1) hx hb hr hlocks hS hP rfl (by (try dsimp only); first | (rw [if_pos (by assumption)]; exact ⟨rfl, rfl, rfl, rfl, rfl⟩) | (rw [if_neg (by simp [*])]; exact ⟨rfl, rfl, rfl, rfl, rfl⟩)) dX10_put_11
theorem hsX4_begin : yX4_begin.cls ≠ "java/lang/invoke/MethodHandle" ∧ yX4_begin.cls ≠ "java/lang/invoke/VarHandle" ∧ (parseMethodDescriptor yX4_begin.desc).map (fun d => d.parameters.length) = some 1 := by decide +kernel
theorem hvX4_begin : yX4_begin.cls = RX4 ∧ yX4_begin.cls ≠ "java/lang/invoke/MethodHandle" ∧ yX4_begin.cls ≠ "java/lang/invoke/VarHandle" ∧ (parseMethodDescriptor yX4_begin.desc).map (fun d => d.parameters.length) = some 1 := ⟨rfl, hsX4_begin⟩
abbrev rmX10_anew : Room := { frames := 2, cells := 0, slots := 0, locals := 43 }
set_option maxHeartbeats 4000000 in
set_option maxRecDepth 100000 in
theorem c_X10_anew (l : Launch) (D : va_G) (cI cZ : ClassId) (z : jZT) (h0 h20 h21 h10 h12 h14 h15 h16 h8 h1 h6 h2 h3 h17 h18 h19 h11 : Nat) (tk9 lt tra nk nd nb nsp nst nmo ntu nri nla nro Wi Hi bl sc sd no tu be sp : Int) (g : Int → Int) : jMu (S := Unit) l yX10_anew wsX10_anew rmX10_anew [.ref h0] D cI cZ z [(h0, .inr (10, [.ref h20, .ref h21, .ref h10, .ref h12, .ref h14, .ref h15, .ref h16, .ref h8, .ref h1, .ref h6, .ref h2, .ref h3, .ref h17, .ref h18, .int (iI (tk9)), .ref h19, .int (iI (lt)), .long (lI (tra))])), (h14, .inr (4, [.int (iI (nk)), .int (iI (nd)), .int (iI (nb)), .int (iI (nsp)), .int (iI (nst)), .int (iI (nmo)), .int (iI (ntu)), .int (iI (nri)), .int (iI (nla)), .int (iI (nro))])), (h10, .inr (7, [.ref h11, .int (iI (Wi)), .int (iI (Hi)), .int (iI (bl)), .int (iI (sc)), .int (iI (sd)), .int (iI (no)), .int (iI (tu)), .int (iI (be)), .int (iI (sp))])), (h11, .inl (cI, 256, .inl (aI g)))] (fun u => some (.int (iI (nst)))) (fun u => True) (fun u => [(h0, .inr (10, [.ref h20, .ref h21, .ref h10, .ref h12, .ref h14, .ref h15, .ref h16, .ref h8, .ref h1, .ref h6, .ref h2, .ref h3, .ref h17, .ref h18, .int (iI (tk9)), .ref h19, .int (iI (lt)), .long (lI (tra))])), (h14, .inr (4, [.int (iI (sc)), .int (iI (sd)), .int (iI (0)), .int (iI (sp)), .int (iI (0)), .int (iI (0)), .int (iI (0)), .int (iI (0)), .int (iI (-9)), .int (iI (0))])), (h10, .inr (7, [.ref h11, .int (iI (Wi)), .int (iI (Hi)), .int (iI (bl)), .int (iI (sc)), .int (iI (sd)), .int (iI (no)), .int (iI (tu)), .int (iI (be)), .int (iI (sp))])), (h11, .inl (cI, 256, .inl (aI g)))]) := by
  refine jMu_of (cc := cX10_anew) (n := 2) (ret := (some .int)) (by decide) rfl (Nat.le_of_ble_eq_true rfl) ?_
  intro p e s m below meth c A ls args Q hQ F hA hZ hP hK hD hS hl
  obtain ⟨hx, hb, hr, hml, hown, hts, hlocks⟩ := F
  have hown : s.vm.findClass RX10 = some m.cls := hown
  have hl : lv_has ls 2 [(0, .ref h0)] := hl
  have L38 := hts (.fieldLink RX10 38 "TinMouse" "now" "LTinMouse$Now;") (by decide +kernel)
  have L192 := hts (.fieldLink RX10 192 "TinMouse$Now" "steps" "I") (by decide +kernel)
  have L28 := hts (.fieldLink RX10 28 "TinMouse" "table" "LTinMouse$Table;") (by decide +kernel)
  have UX10 : ∀ w ∈ wsX100, w ∈ wsX10_anew := fun w h => List.mem_cons_of_mem _ (List.mem_append_left _ (List.mem_append_left _ (List.mem_append_right _ h)))
  have UX4 : ∀ w ∈ wsX40, w ∈ wsX10_anew := fun w h => List.mem_cons_of_mem _ (List.mem_append_left _ (List.mem_append_right _ h))
  refine lv_aload_n hx hb dX10_anew_0 rfl (lv_at hl 0 rfl) ?_
  refine va_get (D := D) (ci := 10) (v := .ref h14) (C := RX10) (T := TX10) (N := 18) hx hb hts UX10 hown hK hP 0 rfl rfl 4 (by decide) L38 (fun _ h9 => h9) rfl dX10_anew_1 ?_
  refine va_get (D := D) (ci := 4) (v := .int (iI (nst))) (C := RX4) (T := TX4) (N := 10) hx hb hts UX4 hown hK hP 1 rfl rfl 4 (by decide) L192 (fun _ h9 => h9) rfl dX10_anew_4 ?_
  refine lv_istore_n (lv' := [(1, .int (iI (nst))), (0, .ref h0)]) hx hb dX10_anew_7 rfl hl (by decide) rfl (fun ls hl => ?_)
  refine lv_aload_n hx hb dX10_anew_8 rfl (lv_at hl 1 rfl) ?_
  refine va_get (D := D) (ci := 10) (v := .ref h14) (C := RX10) (T := TX10) (N := 18) hx hb hts UX10 hown hK hP 0 rfl rfl 4 (by decide) L38 (fun _ h9 => h9) rfl dX10_anew_9 ?_
  refine lv_aload_n hx hb dX10_anew_12 rfl (lv_at hl 1 rfl) ?_
  refine va_get (D := D) (ci := 10) (v := .ref h10) (C := RX10) (T := TX10) (N := 18) hx hb hts UX10 hown hK hP 0 rfl rfl 2 (by decide) L28 (fun _ h9 => h9) rfl dX10_anew_13 ?_
  refine j_muv (va_runV (As := [.ref h10]) (rest := []) ⟨hx, hb, hml, hown, hts⟩ (c_X4_begin l D cI cZ z h14 h10 h11 nk nd nb nsp nst nmo ntu nri nla nro Wi Hi bl sc sd no tu be sp g  s.heap.size) (cwV 1 hts gX10_anew_X4_begin rfl rfl rfl hvX4_begin ⟨Nat.le_of_ble_eq_true rfl, Nat.le_of_ble_eq_true rfl⟩) (j_preV hP hD hK hS hZ hA [1, 2, 3] rfl rfl 1 rfl rfl) rfl rfl hl.1 rfl (lv_room (Nat.le_of_ble_eq_true rfl)) dX10_anew_16 ⟨Nat.zero_le _, Nat.zero_le _⟩) hP hD hS hA [1, 2, 3] rfl (fun _ => rfl) (fun _ H locs hw_16 hP hD hS => ?_)
  have hP : va_P D vwCl [(h0, .inr (10, [.ref h20, .ref h21, .ref h10, .ref h12, .ref h14, .ref h15, .ref h16, .ref h8, .ref h1, .ref h6, .ref h2, .ref h3, .ref h17, .ref h18, .int (iI (tk9)), .ref h19, .int (iI (lt)), .long (lI (tra))])), (h14, .inr (4, [.int (iI (sc)), .int (iI (sd)), .int (iI (0)), .int (iI (sp)), .int (iI (0)), .int (iI (0)), .int (iI (0)), .int (iI (0)), .int (iI (-9)), .int (iI (0))])), (h10, .inr (7, [.ref h11, .int (iI (Wi)), .int (iI (Hi)), .int (iI (bl)), .int (iI (sc)), .int (iI (sd)), .int (iI (no)), .int (iI (tu)), .int (iI (be)), .int (iI (sp))])), (h11, .inl (cI, 256, .inl (aI g)))] H := hP
  have hD : va_D A [(h0, .inr (10, [.ref h20, .ref h21, .ref h10, .ref h12, .ref h14, .ref h15, .ref h16, .ref h8, .ref h1, .ref h6, .ref h2, .ref h3, .ref h17, .ref h18, .int (iI (tk9)), .ref h19, .int (iI (lt)), .long (lI (tra))])), (h14, .inr (4, [.int (iI (sc)), .int (iI (sd)), .int (iI (0)), .int (iI (sp)), .int (iI (0)), .int (iI (0)), .int (iI (0)), .int (iI (0)), .int (iI (-9)), .int (iI (0))])), (h10, .inr (7, [.ref h11, .int (iI (Wi)), .int (iI (Hi)), .int (iI (bl)), .int (iI (sc)), .int (iI (sd)), .int (iI (no)), .int (iI (tu)), .int (iI (be)), .int (iI (sp))])), (h11, .inl (cI, 256, .inl (aI g)))] := hD
  refine lv_iload_n hx hb dX10_anew_19 rfl (lv_at hl 0 rfl) ?_
  rw [hQ]; exact jm_iret () hx hb hr hlocks hS hP rfl trivial dX10_anew_20
abbrev rmX10_toy : Room := { frames := 0, cells := 0, slots := 0, locals := 0 }
set_option maxHeartbeats 4000000 in
set_option maxRecDepth 100000 in
theorem c_X10_toy (l : Launch) (D : va_G) (cI cZ : ClassId) (z : jZT) (h0 h20 h21 h10 h12 h14 h15 h16 h8 h1 h6 h2 h3 h17 h18 h19 h11 : Nat) (w v tk9 lt tra Wi Hi bl sc sd no tu be sp : Int) (g : Int → Int) (hw : -2147483648 ≤ w ∧ w < 2147483648) (hv : -2147483648 ≤ v ∧ v < 2147483648) : jMu (S := Int × Int × Int × Int) l yX10_toy wsX10_toy rmX10_toy [.ref h0, .int (iI (w)), .int (iI (v))] D cI cZ z [(h0, .inr (10, [.ref h20, .ref h21, .ref h10, .ref h12, .ref h14, .ref h15, .ref h16, .ref h8, .ref h1, .ref h6, .ref h2, .ref h3, .ref h17, .ref h18, .int (iI (tk9)), .ref h19, .int (iI (lt)), .long (lI (tra))])), (h10, .inr (7, [.ref h11, .int (iI (Wi)), .int (iI (Hi)), .int (iI (bl)), .int (iI (sc)), .int (iI (sd)), .int (iI (no)), .int (iI (tu)), .int (iI (be)), .int (iI (sp))])), (h11, .inl (cI, 256, .inl (aI g)))] (fun u => some (.int (iI (u.2.2.2)))) (fun u => (u.2.2.2, u.1, u.2.1, u.2.2.1) = if w = 0 ∧ 1 ≤ v ∧ v ≤ 3 then (no, v, tu, be) else if w = 1 ∧ 1 ≤ v ∧ v ≤ 7 then (tu, no, v, be) else if w = 2 ∧ 0 ≤ v ∧ v ≤ 9 then (be, no, tu, v) else (-1, no, tu, be)) (fun u => [(h0, .inr (10, [.ref h20, .ref h21, .ref h10, .ref h12, .ref h14, .ref h15, .ref h16, .ref h8, .ref h1, .ref h6, .ref h2, .ref h3, .ref h17, .ref h18, .int (iI (tk9)), .ref h19, .int (iI (lt)), .long (lI (tra))])), (h10, .inr (7, [.ref h11, .int (iI (Wi)), .int (iI (Hi)), .int (iI (bl)), .int (iI (sc)), .int (iI (sd)), .int (iI (u.1)), .int (iI (u.2.1)), .int (iI (u.2.2.1)), .int (iI (sp))])), (h11, .inl (cI, 256, .inl (aI g)))]) := by
  refine jMu_of (cc := cX10_toy) (n := 4) (ret := (some .int)) (by decide) rfl (Nat.le_of_ble_eq_true rfl) ?_
  intro p e s m below meth c A ls args Q hQ F hA hZ hP hK hD hS hl
  obtain ⟨hx, hb, hr, hml, hown, hts, hlocks⟩ := F
  have hown : s.vm.findClass RX10 = some m.cls := hown
  have hl : lv_has ls 4 [(0, .ref h0), (1, .int (iI (w))), (2, .int (iI (v)))] := hl
  have L28 := hts (.fieldLink RX10 28 "TinMouse" "table" "LTinMouse$Table;") (by decide +kernel)
  have L155 := hts (.fieldLink RX10 155 "TinMouse$Table" "bend" "I") (by decide +kernel)
  have L152 := hts (.fieldLink RX10 152 "TinMouse$Table" "turn" "I") (by decide +kernel)
  have L149 := hts (.fieldLink RX10 149 "TinMouse$Table" "nose" "I") (by decide +kernel)
  have UX10 : ∀ w ∈ wsX100, w ∈ wsX10_toy := fun w h => List.mem_cons_of_mem _ (List.mem_append_left _ (List.mem_append_right _ h))
  have UX7 : ∀ w ∈ wsX70, w ∈ wsX10_toy := fun w h => List.mem_cons_of_mem _ (List.mem_append_right _ h)
  refine lv_iconst (v := iI (-1)) hx hb dX10_toy_0 rfl ?_
  refine lv_istore_n (lv' := [(3, .int (iI (-1))), (0, .ref h0), (1, .int (iI (w))), (2, .int (iI (v)))]) hx hb dX10_toy_1 rfl hl (by decide) rfl (fun ls hl => ?_)
  refine lv_iload_n hx hb dX10_toy_2 rfl (lv_at hl 2 rfl) ?_
  refine j_if_ne (tgt := 35) hx hb (by omega) dX10_toy_3 (by decide) (fun c_3 => ?_) (fun c_3 => ?_)
  · refine lv_iload_n hx hb dX10_toy_35 rfl (lv_at hl 2 rfl) ?_
    refine lv_iconst (v := iI (1)) hx hb dX10_toy_36 rfl ?_
    refine j_icmp_ne (tgt := 70) hx hb (by omega) dX10_toy_37 (by decide) (fun c_37 => ?_) (fun c_37 => ?_)
    · refine lv_iload_n hx hb dX10_toy_70 rfl (lv_at hl 2 rfl) ?_
      refine lv_iconst (v := iI (2)) hx hb dX10_toy_71 rfl ?_
      refine j_icmp_ne (tgt := 101) hx hb (by omega) dX10_toy_72 (by decide) (fun c_72 => ?_) (fun c_72 => ?_)
      · refine lv_iload_n hx hb dX10_toy_101 rfl (lv_at hl 0 rfl) ?_
        rw [hQ]; exact jm_iret (no, tu, be, -1) hx hb hr hlocks hS hP rfl (by (try dsimp only); first | (rw [if_pos (by omega)]; done) | (rw [if_neg (by omega), if_pos (by omega)]; done) | (rw [if_neg (by omega), if_neg (by omega), if_pos (by omega)]; done) | (rw [if_neg (by omega), if_neg (by omega), if_neg (by omega)]; done)) dX10_toy_102
      · refine lv_iload_n hx hb dX10_toy_75 rfl (lv_at hl 3 rfl) ?_
        refine j_if_lt (tgt := 101) hx hb (by omega) dX10_toy_76 (by decide) (fun c_76 => ?_) (fun c_76 => ?_)
        · refine lv_iload_n hx hb dX10_toy_101 rfl (lv_at hl 0 rfl) ?_
          rw [hQ]; exact jm_iret (no, tu, be, -1) hx hb hr hlocks hS hP rfl (by (try dsimp only); first | (rw [if_pos (by omega)]; done) | (rw [if_neg (by omega), if_pos (by omega)]; done) | (rw [if_neg (by omega), if_neg (by omega), if_pos (by omega)]; done) | (rw [if_neg (by omega), if_neg (by omega), if_neg (by omega)]; done)) dX10_toy_102
        · refine lv_iload_n hx hb dX10_toy_79 rfl (lv_at hl 3 rfl) ?_
          refine lv_bipush (v := iI (9)) hx hb dX10_toy_80 (by decide) ?_
          refine j_icmp_gt (tgt := 101) hx hb (by omega) dX10_toy_82 (by decide) (fun c_82 => ?_) (fun c_82 => ?_)
          · refine lv_iload_n hx hb dX10_toy_101 rfl (lv_at hl 0 rfl) ?_
            rw [hQ]; exact jm_iret (no, tu, be, -1) hx hb hr hlocks hS hP rfl (by (try dsimp only); first | (rw [if_pos (by omega)]; done) | (rw [if_neg (by omega), if_pos (by omega)]; done) | (rw [if_neg (by omega), if_neg (by omega), if_pos (by omega)]; done) | (rw [if_neg (by omega), if_neg (by omega), if_neg (by omega)]; done)) dX10_toy_102
          · refine lv_aload_n hx hb dX10_toy_85 rfl (lv_at hl 1 rfl) ?_
            refine va_get (D := D) (ci := 10) (v := .ref h10) (C := RX10) (T := TX10) (N := 18) hx hb hts UX10 hown hK hP 0 rfl rfl 2 (by decide) L28 (fun _ h9 => h9) rfl dX10_toy_86 ?_
            refine va_get (D := D) (ci := 7) (v := .int (iI (be))) (C := RX7) (T := TX7) (N := 10) hx hb hts UX7 hown hK hP 1 rfl rfl 8 (by decide) L155 (fun _ h9 => h9) rfl dX10_toy_89 ?_
            refine lv_istore_n (lv' := [(3, .int (iI (be))), (0, .ref h0), (1, .int (iI (w))), (2, .int (iI (v)))]) hx hb dX10_toy_92 rfl hl (by decide) rfl (fun ls hl => ?_)
            refine lv_aload_n hx hb dX10_toy_93 rfl (lv_at hl 1 rfl) ?_
            refine va_get (D := D) (ci := 10) (v := .ref h10) (C := RX10) (T := TX10) (N := 18) hx hb hts UX10 hown hK hP 0 rfl rfl 2 (by decide) L28 (fun _ h9 => h9) rfl dX10_toy_94 ?_
            refine lv_iload_n hx hb dX10_toy_97 rfl (lv_at hl 3 rfl) ?_
            refine va_put (D := D) (ci := 7) (v := .int (iI (v))) (ty := .int) (C := RX7) (T := TX7) (N := 10) hx hb hts UX7 tyX7 tyX7_ok nmX7 hown hK hP hD hS 1 rfl rfl 8 (by decide) L155 (fun _ h9 => h9) rfl rfl rfl rfl (Nat.le_of_ble_eq_true rfl) dX10_toy_98 (fun H locs hP hD hS => ?_)
            have hP : va_P D vwCl [(h0, .inr (10, [.ref h20, .ref h21, .ref h10, .ref h12, .ref h14, .ref h15, .ref h16, .ref h8, .ref h1, .ref h6, .ref h2, .ref h3, .ref h17, .ref h18, .int (iI (tk9)), .ref h19, .int (iI (lt)), .long (lI (tra))])), (h10, .inr (7, [.ref h11, .int (iI (Wi)), .int (iI (Hi)), .int (iI (bl)), .int (iI (sc)), .int (iI (sd)), .int (iI (no)), .int (iI (tu)), .int (iI (v)), .int (iI (sp))])), (h11, .inl (cI, 256, .inl (aI g)))] H := hP
            have hD : va_D A [(h0, .inr (10, [.ref h20, .ref h21, .ref h10, .ref h12, .ref h14, .ref h15, .ref h16, .ref h8, .ref h1, .ref h6, .ref h2, .ref h3, .ref h17, .ref h18, .int (iI (tk9)), .ref h19, .int (iI (lt)), .long (lI (tra))])), (h10, .inr (7, [.ref h11, .int (iI (Wi)), .int (iI (Hi)), .int (iI (bl)), .int (iI (sc)), .int (iI (sd)), .int (iI (no)), .int (iI (tu)), .int (iI (v)), .int (iI (sp))])), (h11, .inl (cI, 256, .inl (aI g)))] := hD
            refine lv_iload_n hx hb dX10_toy_101 rfl (lv_at hl 0 rfl) ?_
            rw [hQ]; exact jm_iret (no, tu, v, be) hx hb hr hlocks hS hP rfl (by (try dsimp only); first | (rw [if_pos (by omega)]; done) | (rw [if_neg (by omega), if_pos (by omega)]; done) | (rw [if_neg (by omega), if_neg (by omega), if_pos (by omega)]; done) | (rw [if_neg (by omega), if_neg (by omega), if_neg (by omega)]; done)) dX10_toy_102
    · refine lv_iload_n hx hb dX10_toy_40 rfl (lv_at hl 3 rfl) ?_
      refine lv_iconst (v := iI (1)) hx hb dX10_toy_41 rfl ?_
      refine j_icmp_lt (tgt := 70) hx hb (by omega) dX10_toy_42 (by decide) (fun c_42 => ?_) (fun c_42 => ?_)
      · refine lv_iload_n hx hb dX10_toy_70 rfl (lv_at hl 2 rfl) ?_
        refine lv_iconst (v := iI (2)) hx hb dX10_toy_71 rfl ?_
        refine j_icmp_ne (tgt := 101) hx hb (by omega) dX10_toy_72 (by decide) (fun c_72_1 => ?_) (fun c_72_1 => ?_)
        · refine lv_iload_n hx hb dX10_toy_101 rfl (lv_at hl 0 rfl) ?_
          rw [hQ]; exact jm_iret (no, tu, be, -1) hx hb hr hlocks hS hP rfl (by (try dsimp only); first | (rw [if_pos (by omega)]; done) | (rw [if_neg (by omega), if_pos (by omega)]; done) | (rw [if_neg (by omega), if_neg (by omega), if_pos (by omega)]; done) | (rw [if_neg (by omega), if_neg (by omega), if_neg (by omega)]; done)) dX10_toy_102
        · refine lv_iload_n hx hb dX10_toy_75 rfl (lv_at hl 3 rfl) ?_
          refine j_if_lt (tgt := 101) hx hb (by omega) dX10_toy_76 (by decide) (fun c_76_1 => ?_) (fun c_76_1 => ?_)
          · refine lv_iload_n hx hb dX10_toy_101 rfl (lv_at hl 0 rfl) ?_
            rw [hQ]; exact jm_iret (no, tu, be, -1) hx hb hr hlocks hS hP rfl (by (try dsimp only); first | (rw [if_pos (by omega)]; done) | (rw [if_neg (by omega), if_pos (by omega)]; done) | (rw [if_neg (by omega), if_neg (by omega), if_pos (by omega)]; done) | (rw [if_neg (by omega), if_neg (by omega), if_neg (by omega)]; done)) dX10_toy_102
          · refine lv_iload_n hx hb dX10_toy_79 rfl (lv_at hl 3 rfl) ?_
            refine lv_bipush (v := iI (9)) hx hb dX10_toy_80 (by decide) ?_
            refine j_icmp_gt (tgt := 101) hx hb (by omega) dX10_toy_82 (by decide) (fun c_82_1 => ?_) (fun c_82_1 => ?_)
            · refine lv_iload_n hx hb dX10_toy_101 rfl (lv_at hl 0 rfl) ?_
              rw [hQ]; exact jm_iret (no, tu, be, -1) hx hb hr hlocks hS hP rfl (by (try dsimp only); first | (rw [if_pos (by omega)]; done) | (rw [if_neg (by omega), if_pos (by omega)]; done) | (rw [if_neg (by omega), if_neg (by omega), if_pos (by omega)]; done) | (rw [if_neg (by omega), if_neg (by omega), if_neg (by omega)]; done)) dX10_toy_102
            · refine lv_aload_n hx hb dX10_toy_85 rfl (lv_at hl 1 rfl) ?_
              refine va_get (D := D) (ci := 10) (v := .ref h10) (C := RX10) (T := TX10) (N := 18) hx hb hts UX10 hown hK hP 0 rfl rfl 2 (by decide) L28 (fun _ h9 => h9) rfl dX10_toy_86 ?_
              refine va_get (D := D) (ci := 7) (v := .int (iI (be))) (C := RX7) (T := TX7) (N := 10) hx hb hts UX7 hown hK hP 1 rfl rfl 8 (by decide) L155 (fun _ h9 => h9) rfl dX10_toy_89 ?_
              refine lv_istore_n (lv' := [(3, .int (iI (be))), (0, .ref h0), (1, .int (iI (w))), (2, .int (iI (v)))]) hx hb dX10_toy_92 rfl hl (by decide) rfl (fun ls hl => ?_)
              refine lv_aload_n hx hb dX10_toy_93 rfl (lv_at hl 1 rfl) ?_
              refine va_get (D := D) (ci := 10) (v := .ref h10) (C := RX10) (T := TX10) (N := 18) hx hb hts UX10 hown hK hP 0 rfl rfl 2 (by decide) L28 (fun _ h9 => h9) rfl dX10_toy_94 ?_
              refine lv_iload_n hx hb dX10_toy_97 rfl (lv_at hl 3 rfl) ?_
              refine va_put (D := D) (ci := 7) (v := .int (iI (v))) (ty := .int) (C := RX7) (T := TX7) (N := 10) hx hb hts UX7 tyX7 tyX7_ok nmX7 hown hK hP hD hS 1 rfl rfl 8 (by decide) L155 (fun _ h9 => h9) rfl rfl rfl rfl (Nat.le_of_ble_eq_true rfl) dX10_toy_98 (fun H locs hP hD hS => ?_)
              have hP : va_P D vwCl [(h0, .inr (10, [.ref h20, .ref h21, .ref h10, .ref h12, .ref h14, .ref h15, .ref h16, .ref h8, .ref h1, .ref h6, .ref h2, .ref h3, .ref h17, .ref h18, .int (iI (tk9)), .ref h19, .int (iI (lt)), .long (lI (tra))])), (h10, .inr (7, [.ref h11, .int (iI (Wi)), .int (iI (Hi)), .int (iI (bl)), .int (iI (sc)), .int (iI (sd)), .int (iI (no)), .int (iI (tu)), .int (iI (v)), .int (iI (sp))])), (h11, .inl (cI, 256, .inl (aI g)))] H := hP
              have hD : va_D A [(h0, .inr (10, [.ref h20, .ref h21, .ref h10, .ref h12, .ref h14, .ref h15, .ref h16, .ref h8, .ref h1, .ref h6, .ref h2, .ref h3, .ref h17, .ref h18, .int (iI (tk9)), .ref h19, .int (iI (lt)), .long (lI (tra))])), (h10, .inr (7, [.ref h11, .int (iI (Wi)), .int (iI (Hi)), .int (iI (bl)), .int (iI (sc)), .int (iI (sd)), .int (iI (no)), .int (iI (tu)), .int (iI (v)), .int (iI (sp))])), (h11, .inl (cI, 256, .inl (aI g)))] := hD
              refine lv_iload_n hx hb dX10_toy_101 rfl (lv_at hl 0 rfl) ?_
              rw [hQ]; exact jm_iret (no, tu, v, be) hx hb hr hlocks hS hP rfl (by (try dsimp only); first | (rw [if_pos (by omega)]; done) | (rw [if_neg (by omega), if_pos (by omega)]; done) | (rw [if_neg (by omega), if_neg (by omega), if_pos (by omega)]; done) | (rw [if_neg (by omega), if_neg (by omega), if_neg (by omega)]; done)) dX10_toy_102
      · refine lv_iload_n hx hb dX10_toy_45 rfl (lv_at hl 3 rfl) ?_
        refine lv_bipush (v := iI (7)) hx hb dX10_toy_46 (by decide) ?_
        refine j_icmp_gt (tgt := 70) hx hb (by omega) dX10_toy_48 (by decide) (fun c_48 => ?_) (fun c_48 => ?_)
        · refine lv_iload_n hx hb dX10_toy_70 rfl (lv_at hl 2 rfl) ?_
          refine lv_iconst (v := iI (2)) hx hb dX10_toy_71 rfl ?_
          refine j_icmp_ne (tgt := 101) hx hb (by omega) dX10_toy_72 (by decide) (fun c_72_2 => ?_) (fun c_72_2 => ?_)
          · refine lv_iload_n hx hb dX10_toy_101 rfl (lv_at hl 0 rfl) ?_
            rw [hQ]; exact jm_iret (no, tu, be, -1) hx hb hr hlocks hS hP rfl (by (try dsimp only); first | (rw [if_pos (by omega)]; done) | (rw [if_neg (by omega), if_pos (by omega)]; done) | (rw [if_neg (by omega), if_neg (by omega), if_pos (by omega)]; done) | (rw [if_neg (by omega), if_neg (by omega), if_neg (by omega)]; done)) dX10_toy_102
          · refine lv_iload_n hx hb dX10_toy_75 rfl (lv_at hl 3 rfl) ?_
            refine j_if_lt (tgt := 101) hx hb (by omega) dX10_toy_76 (by decide) (fun c_76_2 => ?_) (fun c_76_2 => ?_)
            · refine lv_iload_n hx hb dX10_toy_101 rfl (lv_at hl 0 rfl) ?_
              rw [hQ]; exact jm_iret (no, tu, be, -1) hx hb hr hlocks hS hP rfl (by (try dsimp only); first | (rw [if_pos (by omega)]; done) | (rw [if_neg (by omega), if_pos (by omega)]; done) | (rw [if_neg (by omega), if_neg (by omega), if_pos (by omega)]; done) | (rw [if_neg (by omega), if_neg (by omega), if_neg (by omega)]; done)) dX10_toy_102
            · refine lv_iload_n hx hb dX10_toy_79 rfl (lv_at hl 3 rfl) ?_
              refine lv_bipush (v := iI (9)) hx hb dX10_toy_80 (by decide) ?_
              refine j_icmp_gt (tgt := 101) hx hb (by omega) dX10_toy_82 (by decide) (fun c_82_2 => ?_) (fun c_82_2 => ?_)
              · refine lv_iload_n hx hb dX10_toy_101 rfl (lv_at hl 0 rfl) ?_
                rw [hQ]; exact jm_iret (no, tu, be, -1) hx hb hr hlocks hS hP rfl (by (try dsimp only); first | (rw [if_pos (by omega)]; done) | (rw [if_neg (by omega), if_pos (by omega)]; done) | (rw [if_neg (by omega), if_neg (by omega), if_pos (by omega)]; done) | (rw [if_neg (by omega), if_neg (by omega), if_neg (by omega)]; done)) dX10_toy_102
              · refine lv_aload_n hx hb dX10_toy_85 rfl (lv_at hl 1 rfl) ?_
                refine va_get (D := D) (ci := 10) (v := .ref h10) (C := RX10) (T := TX10) (N := 18) hx hb hts UX10 hown hK hP 0 rfl rfl 2 (by decide) L28 (fun _ h9 => h9) rfl dX10_toy_86 ?_
                refine va_get (D := D) (ci := 7) (v := .int (iI (be))) (C := RX7) (T := TX7) (N := 10) hx hb hts UX7 hown hK hP 1 rfl rfl 8 (by decide) L155 (fun _ h9 => h9) rfl dX10_toy_89 ?_
                refine lv_istore_n (lv' := [(3, .int (iI (be))), (0, .ref h0), (1, .int (iI (w))), (2, .int (iI (v)))]) hx hb dX10_toy_92 rfl hl (by decide) rfl (fun ls hl => ?_)
                refine lv_aload_n hx hb dX10_toy_93 rfl (lv_at hl 1 rfl) ?_
                refine va_get (D := D) (ci := 10) (v := .ref h10) (C := RX10) (T := TX10) (N := 18) hx hb hts UX10 hown hK hP 0 rfl rfl 2 (by decide) L28 (fun _ h9 => h9) rfl dX10_toy_94 ?_
                refine lv_iload_n hx hb dX10_toy_97 rfl (lv_at hl 3 rfl) ?_
                refine va_put (D := D) (ci := 7) (v := .int (iI (v))) (ty := .int) (C := RX7) (T := TX7) (N := 10) hx hb hts UX7 tyX7 tyX7_ok nmX7 hown hK hP hD hS 1 rfl rfl 8 (by decide) L155 (fun _ h9 => h9) rfl rfl rfl rfl (Nat.le_of_ble_eq_true rfl) dX10_toy_98 (fun H locs hP hD hS => ?_)
                have hP : va_P D vwCl [(h0, .inr (10, [.ref h20, .ref h21, .ref h10, .ref h12, .ref h14, .ref h15, .ref h16, .ref h8, .ref h1, .ref h6, .ref h2, .ref h3, .ref h17, .ref h18, .int (iI (tk9)), .ref h19, .int (iI (lt)), .long (lI (tra))])), (h10, .inr (7, [.ref h11, .int (iI (Wi)), .int (iI (Hi)), .int (iI (bl)), .int (iI (sc)), .int (iI (sd)), .int (iI (no)), .int (iI (tu)), .int (iI (v)), .int (iI (sp))])), (h11, .inl (cI, 256, .inl (aI g)))] H := hP
                have hD : va_D A [(h0, .inr (10, [.ref h20, .ref h21, .ref h10, .ref h12, .ref h14, .ref h15, .ref h16, .ref h8, .ref h1, .ref h6, .ref h2, .ref h3, .ref h17, .ref h18, .int (iI (tk9)), .ref h19, .int (iI (lt)), .long (lI (tra))])), (h10, .inr (7, [.ref h11, .int (iI (Wi)), .int (iI (Hi)), .int (iI (bl)), .int (iI (sc)), .int (iI (sd)), .int (iI (no)), .int (iI (tu)), .int (iI (v)), .int (iI (sp))])), (h11, .inl (cI, 256, .inl (aI g)))] := hD
                refine lv_iload_n hx hb dX10_toy_101 rfl (lv_at hl 0 rfl) ?_
                rw [hQ]; exact jm_iret (no, tu, v, be) hx hb hr hlocks hS hP rfl (by (try dsimp only); first | (rw [if_pos (by omega)]; done) | (rw [if_neg (by omega), if_pos (by omega)]; done) | (rw [if_neg (by omega), if_neg (by omega), if_pos (by omega)]; done) | (rw [if_neg (by omega), if_neg (by omega), if_neg (by omega)]; done)) dX10_toy_102
        · refine lv_aload_n hx hb dX10_toy_51 rfl (lv_at hl 1 rfl) ?_
          refine va_get (D := D) (ci := 10) (v := .ref h10) (C := RX10) (T := TX10) (N := 18) hx hb hts UX10 hown hK hP 0 rfl rfl 2 (by decide) L28 (fun _ h9 => h9) rfl dX10_toy_52 ?_
          refine va_get (D := D) (ci := 7) (v := .int (iI (tu))) (C := RX7) (T := TX7) (N := 10) hx hb hts UX7 hown hK hP 1 rfl rfl 7 (by decide) L152 (fun _ h9 => h9) rfl dX10_toy_55 ?_
          refine lv_istore_n (lv' := [(3, .int (iI (tu))), (0, .ref h0), (1, .int (iI (w))), (2, .int (iI (v)))]) hx hb dX10_toy_58 rfl hl (by decide) rfl (fun ls hl => ?_)
          refine lv_aload_n hx hb dX10_toy_59 rfl (lv_at hl 1 rfl) ?_
          refine va_get (D := D) (ci := 10) (v := .ref h10) (C := RX10) (T := TX10) (N := 18) hx hb hts UX10 hown hK hP 0 rfl rfl 2 (by decide) L28 (fun _ h9 => h9) rfl dX10_toy_60 ?_
          refine lv_iload_n hx hb dX10_toy_63 rfl (lv_at hl 3 rfl) ?_
          refine va_put (D := D) (ci := 7) (v := .int (iI (v))) (ty := .int) (C := RX7) (T := TX7) (N := 10) hx hb hts UX7 tyX7 tyX7_ok nmX7 hown hK hP hD hS 1 rfl rfl 7 (by decide) L152 (fun _ h9 => h9) rfl rfl rfl rfl (Nat.le_of_ble_eq_true rfl) dX10_toy_64 (fun H locs hP hD hS => ?_)
          have hP : va_P D vwCl [(h0, .inr (10, [.ref h20, .ref h21, .ref h10, .ref h12, .ref h14, .ref h15, .ref h16, .ref h8, .ref h1, .ref h6, .ref h2, .ref h3, .ref h17, .ref h18, .int (iI (tk9)), .ref h19, .int (iI (lt)), .long (lI (tra))])), (h10, .inr (7, [.ref h11, .int (iI (Wi)), .int (iI (Hi)), .int (iI (bl)), .int (iI (sc)), .int (iI (sd)), .int (iI (no)), .int (iI (v)), .int (iI (be)), .int (iI (sp))])), (h11, .inl (cI, 256, .inl (aI g)))] H := hP
          have hD : va_D A [(h0, .inr (10, [.ref h20, .ref h21, .ref h10, .ref h12, .ref h14, .ref h15, .ref h16, .ref h8, .ref h1, .ref h6, .ref h2, .ref h3, .ref h17, .ref h18, .int (iI (tk9)), .ref h19, .int (iI (lt)), .long (lI (tra))])), (h10, .inr (7, [.ref h11, .int (iI (Wi)), .int (iI (Hi)), .int (iI (bl)), .int (iI (sc)), .int (iI (sd)), .int (iI (no)), .int (iI (v)), .int (iI (be)), .int (iI (sp))])), (h11, .inl (cI, 256, .inl (aI g)))] := hD
          refine lv_goto (tgt := 101) hx hb dX10_toy_67 (by decide) ?_
          refine lv_iload_n hx hb dX10_toy_101 rfl (lv_at hl 0 rfl) ?_
          rw [hQ]; exact jm_iret (no, v, be, tu) hx hb hr hlocks hS hP rfl (by (try dsimp only); first | (rw [if_pos (by omega)]; done) | (rw [if_neg (by omega), if_pos (by omega)]; done) | (rw [if_neg (by omega), if_neg (by omega), if_pos (by omega)]; done) | (rw [if_neg (by omega), if_neg (by omega), if_neg (by omega)]; done)) dX10_toy_102
  · refine lv_iload_n hx hb dX10_toy_6 rfl (lv_at hl 3 rfl) ?_
    refine lv_iconst (v := iI (1)) hx hb dX10_toy_7 rfl ?_
    refine j_icmp_lt (tgt := 35) hx hb (by omega) dX10_toy_8 (by decide) (fun c_8 => ?_) (fun c_8 => ?_)
    · refine lv_iload_n hx hb dX10_toy_35 rfl (lv_at hl 2 rfl) ?_
      refine lv_iconst (v := iI (1)) hx hb dX10_toy_36 rfl ?_
      refine j_icmp_ne (tgt := 70) hx hb (by omega) dX10_toy_37 (by decide) (fun c_37_1 => ?_) (fun c_37_1 => ?_)
      · refine lv_iload_n hx hb dX10_toy_70 rfl (lv_at hl 2 rfl) ?_
        refine lv_iconst (v := iI (2)) hx hb dX10_toy_71 rfl ?_
        refine j_icmp_ne (tgt := 101) hx hb (by omega) dX10_toy_72 (by decide) (fun c_72_3 => ?_) (fun c_72_3 => ?_)
        · refine lv_iload_n hx hb dX10_toy_101 rfl (lv_at hl 0 rfl) ?_
          rw [hQ]; exact jm_iret (no, tu, be, -1) hx hb hr hlocks hS hP rfl (by (try dsimp only); first | (rw [if_pos (by omega)]; done) | (rw [if_neg (by omega), if_pos (by omega)]; done) | (rw [if_neg (by omega), if_neg (by omega), if_pos (by omega)]; done) | (rw [if_neg (by omega), if_neg (by omega), if_neg (by omega)]; done)) dX10_toy_102
        · refine lv_iload_n hx hb dX10_toy_75 rfl (lv_at hl 3 rfl) ?_
          refine j_if_lt (tgt := 101) hx hb (by omega) dX10_toy_76 (by decide) (fun c_76_3 => ?_) (fun c_76_3 => ?_)
          · refine lv_iload_n hx hb dX10_toy_101 rfl (lv_at hl 0 rfl) ?_
            rw [hQ]; exact jm_iret (no, tu, be, -1) hx hb hr hlocks hS hP rfl (by (try dsimp only); first | (rw [if_pos (by omega)]; done) | (rw [if_neg (by omega), if_pos (by omega)]; done) | (rw [if_neg (by omega), if_neg (by omega), if_pos (by omega)]; done) | (rw [if_neg (by omega), if_neg (by omega), if_neg (by omega)]; done)) dX10_toy_102
          · refine lv_iload_n hx hb dX10_toy_79 rfl (lv_at hl 3 rfl) ?_
            refine lv_bipush (v := iI (9)) hx hb dX10_toy_80 (by decide) ?_
            refine j_icmp_gt (tgt := 101) hx hb (by omega) dX10_toy_82 (by decide) (fun c_82_3 => ?_) (fun c_82_3 => ?_)
            · refine lv_iload_n hx hb dX10_toy_101 rfl (lv_at hl 0 rfl) ?_
              rw [hQ]; exact jm_iret (no, tu, be, -1) hx hb hr hlocks hS hP rfl (by (try dsimp only); first | (rw [if_pos (by omega)]; done) | (rw [if_neg (by omega), if_pos (by omega)]; done) | (rw [if_neg (by omega), if_neg (by omega), if_pos (by omega)]; done) | (rw [if_neg (by omega), if_neg (by omega), if_neg (by omega)]; done)) dX10_toy_102
            · refine lv_aload_n hx hb dX10_toy_85 rfl (lv_at hl 1 rfl) ?_
              refine va_get (D := D) (ci := 10) (v := .ref h10) (C := RX10) (T := TX10) (N := 18) hx hb hts UX10 hown hK hP 0 rfl rfl 2 (by decide) L28 (fun _ h9 => h9) rfl dX10_toy_86 ?_
              refine va_get (D := D) (ci := 7) (v := .int (iI (be))) (C := RX7) (T := TX7) (N := 10) hx hb hts UX7 hown hK hP 1 rfl rfl 8 (by decide) L155 (fun _ h9 => h9) rfl dX10_toy_89 ?_
              refine lv_istore_n (lv' := [(3, .int (iI (be))), (0, .ref h0), (1, .int (iI (w))), (2, .int (iI (v)))]) hx hb dX10_toy_92 rfl hl (by decide) rfl (fun ls hl => ?_)
              refine lv_aload_n hx hb dX10_toy_93 rfl (lv_at hl 1 rfl) ?_
              refine va_get (D := D) (ci := 10) (v := .ref h10) (C := RX10) (T := TX10) (N := 18) hx hb hts UX10 hown hK hP 0 rfl rfl 2 (by decide) L28 (fun _ h9 => h9) rfl dX10_toy_94 ?_
              refine lv_iload_n hx hb dX10_toy_97 rfl (lv_at hl 3 rfl) ?_
              refine va_put (D := D) (ci := 7) (v := .int (iI (v))) (ty := .int) (C := RX7) (T := TX7) (N := 10) hx hb hts UX7 tyX7 tyX7_ok nmX7 hown hK hP hD hS 1 rfl rfl 8 (by decide) L155 (fun _ h9 => h9) rfl rfl rfl rfl (Nat.le_of_ble_eq_true rfl) dX10_toy_98 (fun H locs hP hD hS => ?_)
              have hP : va_P D vwCl [(h0, .inr (10, [.ref h20, .ref h21, .ref h10, .ref h12, .ref h14, .ref h15, .ref h16, .ref h8, .ref h1, .ref h6, .ref h2, .ref h3, .ref h17, .ref h18, .int (iI (tk9)), .ref h19, .int (iI (lt)), .long (lI (tra))])), (h10, .inr (7, [.ref h11, .int (iI (Wi)), .int (iI (Hi)), .int (iI (bl)), .int (iI (sc)), .int (iI (sd)), .int (iI (no)), .int (iI (tu)), .int (iI (v)), .int (iI (sp))])), (h11, .inl (cI, 256, .inl (aI g)))] H := hP
              have hD : va_D A [(h0, .inr (10, [.ref h20, .ref h21, .ref h10, .ref h12, .ref h14, .ref h15, .ref h16, .ref h8, .ref h1, .ref h6, .ref h2, .ref h3, .ref h17, .ref h18, .int (iI (tk9)), .ref h19, .int (iI (lt)), .long (lI (tra))])), (h10, .inr (7, [.ref h11, .int (iI (Wi)), .int (iI (Hi)), .int (iI (bl)), .int (iI (sc)), .int (iI (sd)), .int (iI (no)), .int (iI (tu)), .int (iI (v)), .int (iI (sp))])), (h11, .inl (cI, 256, .inl (aI g)))] := hD
              refine lv_iload_n hx hb dX10_toy_101 rfl (lv_at hl 0 rfl) ?_
              rw [hQ]; exact jm_iret (no, tu, v, be) hx hb hr hlocks hS hP rfl (by (try dsimp only); first | (rw [if_pos (by omega)]; done) | (rw [if_neg (by omega), if_pos (by omega)]; done) | (rw [if_neg (by omega), if_neg (by omega), if_pos (by omega)]; done) | (rw [if_neg (by omega), if_neg (by omega), if_neg (by omega)]; done)) dX10_toy_102
      · refine lv_iload_n hx hb dX10_toy_40 rfl (lv_at hl 3 rfl) ?_
        refine lv_iconst (v := iI (1)) hx hb dX10_toy_41 rfl ?_
        refine j_icmp_lt (tgt := 70) hx hb (by omega) dX10_toy_42 (by decide) (fun c_42_1 => ?_) (fun c_42_1 => ?_)
        · refine lv_iload_n hx hb dX10_toy_70 rfl (lv_at hl 2 rfl) ?_
          refine lv_iconst (v := iI (2)) hx hb dX10_toy_71 rfl ?_
          refine j_icmp_ne (tgt := 101) hx hb (by omega) dX10_toy_72 (by decide) (fun c_72_4 => ?_) (fun c_72_4 => ?_)
          · refine lv_iload_n hx hb dX10_toy_101 rfl (lv_at hl 0 rfl) ?_
            rw [hQ]; exact jm_iret (no, tu, be, -1) hx hb hr hlocks hS hP rfl (by (try dsimp only); first | (rw [if_pos (by omega)]; done) | (rw [if_neg (by omega), if_pos (by omega)]; done) | (rw [if_neg (by omega), if_neg (by omega), if_pos (by omega)]; done) | (rw [if_neg (by omega), if_neg (by omega), if_neg (by omega)]; done)) dX10_toy_102
          · refine lv_iload_n hx hb dX10_toy_75 rfl (lv_at hl 3 rfl) ?_
            refine j_if_lt (tgt := 101) hx hb (by omega) dX10_toy_76 (by decide) (fun c_76_4 => ?_) (fun c_76_4 => ?_)
            · refine lv_iload_n hx hb dX10_toy_101 rfl (lv_at hl 0 rfl) ?_
              rw [hQ]; exact jm_iret (no, tu, be, -1) hx hb hr hlocks hS hP rfl (by (try dsimp only); first | (rw [if_pos (by omega)]; done) | (rw [if_neg (by omega), if_pos (by omega)]; done) | (rw [if_neg (by omega), if_neg (by omega), if_pos (by omega)]; done) | (rw [if_neg (by omega), if_neg (by omega), if_neg (by omega)]; done)) dX10_toy_102
            · refine lv_iload_n hx hb dX10_toy_79 rfl (lv_at hl 3 rfl) ?_
              refine lv_bipush (v := iI (9)) hx hb dX10_toy_80 (by decide) ?_
              refine j_icmp_gt (tgt := 101) hx hb (by omega) dX10_toy_82 (by decide) (fun c_82_4 => ?_) (fun c_82_4 => ?_)
              · refine lv_iload_n hx hb dX10_toy_101 rfl (lv_at hl 0 rfl) ?_
                rw [hQ]; exact jm_iret (no, tu, be, -1) hx hb hr hlocks hS hP rfl (by (try dsimp only); first | (rw [if_pos (by omega)]; done) | (rw [if_neg (by omega), if_pos (by omega)]; done) | (rw [if_neg (by omega), if_neg (by omega), if_pos (by omega)]; done) | (rw [if_neg (by omega), if_neg (by omega), if_neg (by omega)]; done)) dX10_toy_102
              · refine lv_aload_n hx hb dX10_toy_85 rfl (lv_at hl 1 rfl) ?_
                refine va_get (D := D) (ci := 10) (v := .ref h10) (C := RX10) (T := TX10) (N := 18) hx hb hts UX10 hown hK hP 0 rfl rfl 2 (by decide) L28 (fun _ h9 => h9) rfl dX10_toy_86 ?_
                refine va_get (D := D) (ci := 7) (v := .int (iI (be))) (C := RX7) (T := TX7) (N := 10) hx hb hts UX7 hown hK hP 1 rfl rfl 8 (by decide) L155 (fun _ h9 => h9) rfl dX10_toy_89 ?_
                refine lv_istore_n (lv' := [(3, .int (iI (be))), (0, .ref h0), (1, .int (iI (w))), (2, .int (iI (v)))]) hx hb dX10_toy_92 rfl hl (by decide) rfl (fun ls hl => ?_)
                refine lv_aload_n hx hb dX10_toy_93 rfl (lv_at hl 1 rfl) ?_
                refine va_get (D := D) (ci := 10) (v := .ref h10) (C := RX10) (T := TX10) (N := 18) hx hb hts UX10 hown hK hP 0 rfl rfl 2 (by decide) L28 (fun _ h9 => h9) rfl dX10_toy_94 ?_
                refine lv_iload_n hx hb dX10_toy_97 rfl (lv_at hl 3 rfl) ?_
                refine va_put (D := D) (ci := 7) (v := .int (iI (v))) (ty := .int) (C := RX7) (T := TX7) (N := 10) hx hb hts UX7 tyX7 tyX7_ok nmX7 hown hK hP hD hS 1 rfl rfl 8 (by decide) L155 (fun _ h9 => h9) rfl rfl rfl rfl (Nat.le_of_ble_eq_true rfl) dX10_toy_98 (fun H locs hP hD hS => ?_)
                have hP : va_P D vwCl [(h0, .inr (10, [.ref h20, .ref h21, .ref h10, .ref h12, .ref h14, .ref h15, .ref h16, .ref h8, .ref h1, .ref h6, .ref h2, .ref h3, .ref h17, .ref h18, .int (iI (tk9)), .ref h19, .int (iI (lt)), .long (lI (tra))])), (h10, .inr (7, [.ref h11, .int (iI (Wi)), .int (iI (Hi)), .int (iI (bl)), .int (iI (sc)), .int (iI (sd)), .int (iI (no)), .int (iI (tu)), .int (iI (v)), .int (iI (sp))])), (h11, .inl (cI, 256, .inl (aI g)))] H := hP
                have hD : va_D A [(h0, .inr (10, [.ref h20, .ref h21, .ref h10, .ref h12, .ref h14, .ref h15, .ref h16, .ref h8, .ref h1, .ref h6, .ref h2, .ref h3, .ref h17, .ref h18, .int (iI (tk9)), .ref h19, .int (iI (lt)), .long (lI (tra))])), (h10, .inr (7, [.ref h11, .int (iI (Wi)), .int (iI (Hi)), .int (iI (bl)), .int (iI (sc)), .int (iI (sd)), .int (iI (no)), .int (iI (tu)), .int (iI (v)), .int (iI (sp))])), (h11, .inl (cI, 256, .inl (aI g)))] := hD
                refine lv_iload_n hx hb dX10_toy_101 rfl (lv_at hl 0 rfl) ?_
                rw [hQ]; exact jm_iret (no, tu, v, be) hx hb hr hlocks hS hP rfl (by (try dsimp only); first | (rw [if_pos (by omega)]; done) | (rw [if_neg (by omega), if_pos (by omega)]; done) | (rw [if_neg (by omega), if_neg (by omega), if_pos (by omega)]; done) | (rw [if_neg (by omega), if_neg (by omega), if_neg (by omega)]; done)) dX10_toy_102
        · refine lv_iload_n hx hb dX10_toy_45 rfl (lv_at hl 3 rfl) ?_
          refine lv_bipush (v := iI (7)) hx hb dX10_toy_46 (by decide) ?_
          refine j_icmp_gt (tgt := 70) hx hb (by omega) dX10_toy_48 (by decide) (fun c_48_1 => ?_) (fun c_48_1 => ?_)
          · refine lv_iload_n hx hb dX10_toy_70 rfl (lv_at hl 2 rfl) ?_
            refine lv_iconst (v := iI (2)) hx hb dX10_toy_71 rfl ?_
            refine j_icmp_ne (tgt := 101) hx hb (by omega) dX10_toy_72 (by decide) (fun c_72_5 => ?_) (fun c_72_5 => ?_)
            · refine lv_iload_n hx hb dX10_toy_101 rfl (lv_at hl 0 rfl) ?_
              rw [hQ]; exact jm_iret (no, tu, be, -1) hx hb hr hlocks hS hP rfl (by (try dsimp only); first | (rw [if_pos (by omega)]; done) | (rw [if_neg (by omega), if_pos (by omega)]; done) | (rw [if_neg (by omega), if_neg (by omega), if_pos (by omega)]; done) | (rw [if_neg (by omega), if_neg (by omega), if_neg (by omega)]; done)) dX10_toy_102
            · refine lv_iload_n hx hb dX10_toy_75 rfl (lv_at hl 3 rfl) ?_
              refine j_if_lt (tgt := 101) hx hb (by omega) dX10_toy_76 (by decide) (fun c_76_5 => ?_) (fun c_76_5 => ?_)
              · refine lv_iload_n hx hb dX10_toy_101 rfl (lv_at hl 0 rfl) ?_
                rw [hQ]; exact jm_iret (no, tu, be, -1) hx hb hr hlocks hS hP rfl (by (try dsimp only); first | (rw [if_pos (by omega)]; done) | (rw [if_neg (by omega), if_pos (by omega)]; done) | (rw [if_neg (by omega), if_neg (by omega), if_pos (by omega)]; done) | (rw [if_neg (by omega), if_neg (by omega), if_neg (by omega)]; done)) dX10_toy_102
              · refine lv_iload_n hx hb dX10_toy_79 rfl (lv_at hl 3 rfl) ?_
                refine lv_bipush (v := iI (9)) hx hb dX10_toy_80 (by decide) ?_
                refine j_icmp_gt (tgt := 101) hx hb (by omega) dX10_toy_82 (by decide) (fun c_82_5 => ?_) (fun c_82_5 => ?_)
                · refine lv_iload_n hx hb dX10_toy_101 rfl (lv_at hl 0 rfl) ?_
                  rw [hQ]; exact jm_iret (no, tu, be, -1) hx hb hr hlocks hS hP rfl (by (try dsimp only); first | (rw [if_pos (by omega)]; done) | (rw [if_neg (by omega), if_pos (by omega)]; done) | (rw [if_neg (by omega), if_neg (by omega), if_pos (by omega)]; done) | (rw [if_neg (by omega), if_neg (by omega), if_neg (by omega)]; done)) dX10_toy_102
                · refine lv_aload_n hx hb dX10_toy_85 rfl (lv_at hl 1 rfl) ?_
                  refine va_get (D := D) (ci := 10) (v := .ref h10) (C := RX10) (T := TX10) (N := 18) hx hb hts UX10 hown hK hP 0 rfl rfl 2 (by decide) L28 (fun _ h9 => h9) rfl dX10_toy_86 ?_
                  refine va_get (D := D) (ci := 7) (v := .int (iI (be))) (C := RX7) (T := TX7) (N := 10) hx hb hts UX7 hown hK hP 1 rfl rfl 8 (by decide) L155 (fun _ h9 => h9) rfl dX10_toy_89 ?_
                  refine lv_istore_n (lv' := [(3, .int (iI (be))), (0, .ref h0), (1, .int (iI (w))), (2, .int (iI (v)))]) hx hb dX10_toy_92 rfl hl (by decide) rfl (fun ls hl => ?_)
                  refine lv_aload_n hx hb dX10_toy_93 rfl (lv_at hl 1 rfl) ?_
                  refine va_get (D := D) (ci := 10) (v := .ref h10) (C := RX10) (T := TX10) (N := 18) hx hb hts UX10 hown hK hP 0 rfl rfl 2 (by decide) L28 (fun _ h9 => h9) rfl dX10_toy_94 ?_
                  refine lv_iload_n hx hb dX10_toy_97 rfl (lv_at hl 3 rfl) ?_
                  refine va_put (D := D) (ci := 7) (v := .int (iI (v))) (ty := .int) (C := RX7) (T := TX7) (N := 10) hx hb hts UX7 tyX7 tyX7_ok nmX7 hown hK hP hD hS 1 rfl rfl 8 (by decide) L155 (fun _ h9 => h9) rfl rfl rfl rfl (Nat.le_of_ble_eq_true rfl) dX10_toy_98 (fun H locs hP hD hS => ?_)
                  have hP : va_P D vwCl [(h0, .inr (10, [.ref h20, .ref h21, .ref h10, .ref h12, .ref h14, .ref h15, .ref h16, .ref h8, .ref h1, .ref h6, .ref h2, .ref h3, .ref h17, .ref h18, .int (iI (tk9)), .ref h19, .int (iI (lt)), .long (lI (tra))])), (h10, .inr (7, [.ref h11, .int (iI (Wi)), .int (iI (Hi)), .int (iI (bl)), .int (iI (sc)), .int (iI (sd)), .int (iI (no)), .int (iI (tu)), .int (iI (v)), .int (iI (sp))])), (h11, .inl (cI, 256, .inl (aI g)))] H := hP
                  have hD : va_D A [(h0, .inr (10, [.ref h20, .ref h21, .ref h10, .ref h12, .ref h14, .ref h15, .ref h16, .ref h8, .ref h1, .ref h6, .ref h2, .ref h3, .ref h17, .ref h18, .int (iI (tk9)), .ref h19, .int (iI (lt)), .long (lI (tra))])), (h10, .inr (7, [.ref h11, .int (iI (Wi)), .int (iI (Hi)), .int (iI (bl)), .int (iI (sc)), .int (iI (sd)), .int (iI (no)), .int (iI (tu)), .int (iI (v)), .int (iI (sp))])), (h11, .inl (cI, 256, .inl (aI g)))] := hD
                  refine lv_iload_n hx hb dX10_toy_101 rfl (lv_at hl 0 rfl) ?_
                  rw [hQ]; exact jm_iret (no, tu, v, be) hx hb hr hlocks hS hP rfl (by (try dsimp only); first | (rw [if_pos (by omega)]; done) | (rw [if_neg (by omega), if_pos (by omega)]; done) | (rw [if_neg (by omega), if_neg (by omega), if_pos (by omega)]; done) | (rw [if_neg (by omega), if_neg (by omega), if_neg (by omega)]; done)) dX10_toy_102
          · refine lv_aload_n hx hb dX10_toy_51 rfl (lv_at hl 1 rfl) ?_
            refine va_get (D := D) (ci := 10) (v := .ref h10) (C := RX10) (T := TX10) (N := 18) hx hb hts UX10 hown hK hP 0 rfl rfl 2 (by decide) L28 (fun _ h9 => h9) rfl dX10_toy_52 ?_
            refine va_get (D := D) (ci := 7) (v := .int (iI (tu))) (C := RX7) (T := TX7) (N := 10) hx hb hts UX7 hown hK hP 1 rfl rfl 7 (by decide) L152 (fun _ h9 => h9) rfl dX10_toy_55 ?_
            refine lv_istore_n (lv' := [(3, .int (iI (tu))), (0, .ref h0), (1, .int (iI (w))), (2, .int (iI (v)))]) hx hb dX10_toy_58 rfl hl (by decide) rfl (fun ls hl => ?_)
            refine lv_aload_n hx hb dX10_toy_59 rfl (lv_at hl 1 rfl) ?_
            refine va_get (D := D) (ci := 10) (v := .ref h10) (C := RX10) (T := TX10) (N := 18) hx hb hts UX10 hown hK hP 0 rfl rfl 2 (by decide) L28 (fun _ h9 => h9) rfl dX10_toy_60 ?_
            refine lv_iload_n hx hb dX10_toy_63 rfl (lv_at hl 3 rfl) ?_
            refine va_put (D := D) (ci := 7) (v := .int (iI (v))) (ty := .int) (C := RX7) (T := TX7) (N := 10) hx hb hts UX7 tyX7 tyX7_ok nmX7 hown hK hP hD hS 1 rfl rfl 7 (by decide) L152 (fun _ h9 => h9) rfl rfl rfl rfl (Nat.le_of_ble_eq_true rfl) dX10_toy_64 (fun H locs hP hD hS => ?_)
            have hP : va_P D vwCl [(h0, .inr (10, [.ref h20, .ref h21, .ref h10, .ref h12, .ref h14, .ref h15, .ref h16, .ref h8, .ref h1, .ref h6, .ref h2, .ref h3, .ref h17, .ref h18, .int (iI (tk9)), .ref h19, .int (iI (lt)), .long (lI (tra))])), (h10, .inr (7, [.ref h11, .int (iI (Wi)), .int (iI (Hi)), .int (iI (bl)), .int (iI (sc)), .int (iI (sd)), .int (iI (no)), .int (iI (v)), .int (iI (be)), .int (iI (sp))])), (h11, .inl (cI, 256, .inl (aI g)))] H := hP
            have hD : va_D A [(h0, .inr (10, [.ref h20, .ref h21, .ref h10, .ref h12, .ref h14, .ref h15, .ref h16, .ref h8, .ref h1, .ref h6, .ref h2, .ref h3, .ref h17, .ref h18, .int (iI (tk9)), .ref h19, .int (iI (lt)), .long (lI (tra))])), (h10, .inr (7, [.ref h11, .int (iI (Wi)), .int (iI (Hi)), .int (iI (bl)), .int (iI (sc)), .int (iI (sd)), .int (iI (no)), .int (iI (v)), .int (iI (be)), .int (iI (sp))])), (h11, .inl (cI, 256, .inl (aI g)))] := hD
            refine lv_goto (tgt := 101) hx hb dX10_toy_67 (by decide) ?_
            refine lv_iload_n hx hb dX10_toy_101 rfl (lv_at hl 0 rfl) ?_
            rw [hQ]; exact jm_iret (no, v, be, tu) hx hb hr hlocks hS hP rfl (by (try dsimp only); first | (rw [if_pos (by omega)]; done) | (rw [if_neg (by omega), if_pos (by omega)]; done) | (rw [if_neg (by omega), if_neg (by omega), if_pos (by omega)]; done) | (rw [if_neg (by omega), if_neg (by omega), if_neg (by omega)]; done)) dX10_toy_102
    · refine lv_iload_n hx hb dX10_toy_11 rfl (lv_at hl 3 rfl) ?_
      refine lv_iconst (v := iI (3)) hx hb dX10_toy_12 rfl ?_
      refine j_icmp_gt (tgt := 35) hx hb (by omega) dX10_toy_13 (by decide) (fun c_13 => ?_) (fun c_13 => ?_)
      · refine lv_iload_n hx hb dX10_toy_35 rfl (lv_at hl 2 rfl) ?_
        refine lv_iconst (v := iI (1)) hx hb dX10_toy_36 rfl ?_
        refine j_icmp_ne (tgt := 70) hx hb (by omega) dX10_toy_37 (by decide) (fun c_37_2 => ?_) (fun c_37_2 => ?_)
        · refine lv_iload_n hx hb dX10_toy_70 rfl (lv_at hl 2 rfl) ?_
          refine lv_iconst (v := iI (2)) hx hb dX10_toy_71 rfl ?_
          refine j_icmp_ne (tgt := 101) hx hb (by omega) dX10_toy_72 (by decide) (fun c_72_6 => ?_) (fun c_72_6 => ?_)
          · refine lv_iload_n hx hb dX10_toy_101 rfl (lv_at hl 0 rfl) ?_
            rw [hQ]; exact jm_iret (no, tu, be, -1) hx hb hr hlocks hS hP rfl (by (try dsimp only); first | (rw [if_pos (by omega)]; done) | (rw [if_neg (by omega), if_pos (by omega)]; done) | (rw [if_neg (by omega), if_neg (by omega), if_pos (by omega)]; done) | (rw [if_neg (by omega), if_neg (by omega), if_neg (by omega)]; done)) dX10_toy_102
          · refine lv_iload_n hx hb dX10_toy_75 rfl (lv_at hl 3 rfl) ?_
            refine j_if_lt (tgt := 101) hx hb (by omega) dX10_toy_76 (by decide) (fun c_76_6 => ?_) (fun c_76_6 => ?_)
            · refine lv_iload_n hx hb dX10_toy_101 rfl (lv_at hl 0 rfl) ?_
              rw [hQ]; exact jm_iret (no, tu, be, -1) hx hb hr hlocks hS hP rfl (by (try dsimp only); first | (rw [if_pos (by omega)]; done) | (rw [if_neg (by omega), if_pos (by omega)]; done) | (rw [if_neg (by omega), if_neg (by omega), if_pos (by omega)]; done) | (rw [if_neg (by omega), if_neg (by omega), if_neg (by omega)]; done)) dX10_toy_102
            · refine lv_iload_n hx hb dX10_toy_79 rfl (lv_at hl 3 rfl) ?_
              refine lv_bipush (v := iI (9)) hx hb dX10_toy_80 (by decide) ?_
              refine j_icmp_gt (tgt := 101) hx hb (by omega) dX10_toy_82 (by decide) (fun c_82_6 => ?_) (fun c_82_6 => ?_)
              · refine lv_iload_n hx hb dX10_toy_101 rfl (lv_at hl 0 rfl) ?_
                rw [hQ]; exact jm_iret (no, tu, be, -1) hx hb hr hlocks hS hP rfl (by (try dsimp only); first | (rw [if_pos (by omega)]; done) | (rw [if_neg (by omega), if_pos (by omega)]; done) | (rw [if_neg (by omega), if_neg (by omega), if_pos (by omega)]; done) | (rw [if_neg (by omega), if_neg (by omega), if_neg (by omega)]; done)) dX10_toy_102
              · refine lv_aload_n hx hb dX10_toy_85 rfl (lv_at hl 1 rfl) ?_
                refine va_get (D := D) (ci := 10) (v := .ref h10) (C := RX10) (T := TX10) (N := 18) hx hb hts UX10 hown hK hP 0 rfl rfl 2 (by decide) L28 (fun _ h9 => h9) rfl dX10_toy_86 ?_
                refine va_get (D := D) (ci := 7) (v := .int (iI (be))) (C := RX7) (T := TX7) (N := 10) hx hb hts UX7 hown hK hP 1 rfl rfl 8 (by decide) L155 (fun _ h9 => h9) rfl dX10_toy_89 ?_
                refine lv_istore_n (lv' := [(3, .int (iI (be))), (0, .ref h0), (1, .int (iI (w))), (2, .int (iI (v)))]) hx hb dX10_toy_92 rfl hl (by decide) rfl (fun ls hl => ?_)
                refine lv_aload_n hx hb dX10_toy_93 rfl (lv_at hl 1 rfl) ?_
                refine va_get (D := D) (ci := 10) (v := .ref h10) (C := RX10) (T := TX10) (N := 18) hx hb hts UX10 hown hK hP 0 rfl rfl 2 (by decide) L28 (fun _ h9 => h9) rfl dX10_toy_94 ?_
                refine lv_iload_n hx hb dX10_toy_97 rfl (lv_at hl 3 rfl) ?_
                refine va_put (D := D) (ci := 7) (v := .int (iI (v))) (ty := .int) (C := RX7) (T := TX7) (N := 10) hx hb hts UX7 tyX7 tyX7_ok nmX7 hown hK hP hD hS 1 rfl rfl 8 (by decide) L155 (fun _ h9 => h9) rfl rfl rfl rfl (Nat.le_of_ble_eq_true rfl) dX10_toy_98 (fun H locs hP hD hS => ?_)
                have hP : va_P D vwCl [(h0, .inr (10, [.ref h20, .ref h21, .ref h10, .ref h12, .ref h14, .ref h15, .ref h16, .ref h8, .ref h1, .ref h6, .ref h2, .ref h3, .ref h17, .ref h18, .int (iI (tk9)), .ref h19, .int (iI (lt)), .long (lI (tra))])), (h10, .inr (7, [.ref h11, .int (iI (Wi)), .int (iI (Hi)), .int (iI (bl)), .int (iI (sc)), .int (iI (sd)), .int (iI (no)), .int (iI (tu)), .int (iI (v)), .int (iI (sp))])), (h11, .inl (cI, 256, .inl (aI g)))] H := hP
                have hD : va_D A [(h0, .inr (10, [.ref h20, .ref h21, .ref h10, .ref h12, .ref h14, .ref h15, .ref h16, .ref h8, .ref h1, .ref h6, .ref h2, .ref h3, .ref h17, .ref h18, .int (iI (tk9)), .ref h19, .int (iI (lt)), .long (lI (tra))])), (h10, .inr (7, [.ref h11, .int (iI (Wi)), .int (iI (Hi)), .int (iI (bl)), .int (iI (sc)), .int (iI (sd)), .int (iI (no)), .int (iI (tu)), .int (iI (v)), .int (iI (sp))])), (h11, .inl (cI, 256, .inl (aI g)))] := hD
                refine lv_iload_n hx hb dX10_toy_101 rfl (lv_at hl 0 rfl) ?_
                rw [hQ]; exact jm_iret (no, tu, v, be) hx hb hr hlocks hS hP rfl (by (try dsimp only); first | (rw [if_pos (by omega)]; done) | (rw [if_neg (by omega), if_pos (by omega)]; done) | (rw [if_neg (by omega), if_neg (by omega), if_pos (by omega)]; done) | (rw [if_neg (by omega), if_neg (by omega), if_neg (by omega)]; done)) dX10_toy_102
        · refine lv_iload_n hx hb dX10_toy_40 rfl (lv_at hl 3 rfl) ?_
          refine lv_iconst (v := iI (1)) hx hb dX10_toy_41 rfl ?_
          refine j_icmp_lt (tgt := 70) hx hb (by omega) dX10_toy_42 (by decide) (fun c_42_2 => ?_) (fun c_42_2 => ?_)
          · refine lv_iload_n hx hb dX10_toy_70 rfl (lv_at hl 2 rfl) ?_
            refine lv_iconst (v := iI (2)) hx hb dX10_toy_71 rfl ?_
            refine j_icmp_ne (tgt := 101) hx hb (by omega) dX10_toy_72 (by decide) (fun c_72_7 => ?_) (fun c_72_7 => ?_)
            · refine lv_iload_n hx hb dX10_toy_101 rfl (lv_at hl 0 rfl) ?_
              rw [hQ]; exact jm_iret (no, tu, be, -1) hx hb hr hlocks hS hP rfl (by (try dsimp only); first | (rw [if_pos (by omega)]; done) | (rw [if_neg (by omega), if_pos (by omega)]; done) | (rw [if_neg (by omega), if_neg (by omega), if_pos (by omega)]; done) | (rw [if_neg (by omega), if_neg (by omega), if_neg (by omega)]; done)) dX10_toy_102
            · refine lv_iload_n hx hb dX10_toy_75 rfl (lv_at hl 3 rfl) ?_
              refine j_if_lt (tgt := 101) hx hb (by omega) dX10_toy_76 (by decide) (fun c_76_7 => ?_) (fun c_76_7 => ?_)
              · refine lv_iload_n hx hb dX10_toy_101 rfl (lv_at hl 0 rfl) ?_
                rw [hQ]; exact jm_iret (no, tu, be, -1) hx hb hr hlocks hS hP rfl (by (try dsimp only); first | (rw [if_pos (by omega)]; done) | (rw [if_neg (by omega), if_pos (by omega)]; done) | (rw [if_neg (by omega), if_neg (by omega), if_pos (by omega)]; done) | (rw [if_neg (by omega), if_neg (by omega), if_neg (by omega)]; done)) dX10_toy_102
              · refine lv_iload_n hx hb dX10_toy_79 rfl (lv_at hl 3 rfl) ?_
                refine lv_bipush (v := iI (9)) hx hb dX10_toy_80 (by decide) ?_
                refine j_icmp_gt (tgt := 101) hx hb (by omega) dX10_toy_82 (by decide) (fun c_82_7 => ?_) (fun c_82_7 => ?_)
                · refine lv_iload_n hx hb dX10_toy_101 rfl (lv_at hl 0 rfl) ?_
                  rw [hQ]; exact jm_iret (no, tu, be, -1) hx hb hr hlocks hS hP rfl (by (try dsimp only); first | (rw [if_pos (by omega)]; done) | (rw [if_neg (by omega), if_pos (by omega)]; done) | (rw [if_neg (by omega), if_neg (by omega), if_pos (by omega)]; done) | (rw [if_neg (by omega), if_neg (by omega), if_neg (by omega)]; done)) dX10_toy_102
                · refine lv_aload_n hx hb dX10_toy_85 rfl (lv_at hl 1 rfl) ?_
                  refine va_get (D := D) (ci := 10) (v := .ref h10) (C := RX10) (T := TX10) (N := 18) hx hb hts UX10 hown hK hP 0 rfl rfl 2 (by decide) L28 (fun _ h9 => h9) rfl dX10_toy_86 ?_
                  refine va_get (D := D) (ci := 7) (v := .int (iI (be))) (C := RX7) (T := TX7) (N := 10) hx hb hts UX7 hown hK hP 1 rfl rfl 8 (by decide) L155 (fun _ h9 => h9) rfl dX10_toy_89 ?_
                  refine lv_istore_n (lv' := [(3, .int (iI (be))), (0, .ref h0), (1, .int (iI (w))), (2, .int (iI (v)))]) hx hb dX10_toy_92 rfl hl (by decide) rfl (fun ls hl => ?_)
                  refine lv_aload_n hx hb dX10_toy_93 rfl (lv_at hl 1 rfl) ?_
                  refine va_get (D := D) (ci := 10) (v := .ref h10) (C := RX10) (T := TX10) (N := 18) hx hb hts UX10 hown hK hP 0 rfl rfl 2 (by decide) L28 (fun _ h9 => h9) rfl dX10_toy_94 ?_
                  refine lv_iload_n hx hb dX10_toy_97 rfl (lv_at hl 3 rfl) ?_
                  refine va_put (D := D) (ci := 7) (v := .int (iI (v))) (ty := .int) (C := RX7) (T := TX7) (N := 10) hx hb hts UX7 tyX7 tyX7_ok nmX7 hown hK hP hD hS 1 rfl rfl 8 (by decide) L155 (fun _ h9 => h9) rfl rfl rfl rfl (Nat.le_of_ble_eq_true rfl) dX10_toy_98 (fun H locs hP hD hS => ?_)
                  have hP : va_P D vwCl [(h0, .inr (10, [.ref h20, .ref h21, .ref h10, .ref h12, .ref h14, .ref h15, .ref h16, .ref h8, .ref h1, .ref h6, .ref h2, .ref h3, .ref h17, .ref h18, .int (iI (tk9)), .ref h19, .int (iI (lt)), .long (lI (tra))])), (h10, .inr (7, [.ref h11, .int (iI (Wi)), .int (iI (Hi)), .int (iI (bl)), .int (iI (sc)), .int (iI (sd)), .int (iI (no)), .int (iI (tu)), .int (iI (v)), .int (iI (sp))])), (h11, .inl (cI, 256, .inl (aI g)))] H := hP
                  have hD : va_D A [(h0, .inr (10, [.ref h20, .ref h21, .ref h10, .ref h12, .ref h14, .ref h15, .ref h16, .ref h8, .ref h1, .ref h6, .ref h2, .ref h3, .ref h17, .ref h18, .int (iI (tk9)), .ref h19, .int (iI (lt)), .long (lI (tra))])), (h10, .inr (7, [.ref h11, .int (iI (Wi)), .int (iI (Hi)), .int (iI (bl)), .int (iI (sc)), .int (iI (sd)), .int (iI (no)), .int (iI (tu)), .int (iI (v)), .int (iI (sp))])), (h11, .inl (cI, 256, .inl (aI g)))] := hD
                  refine lv_iload_n hx hb dX10_toy_101 rfl (lv_at hl 0 rfl) ?_
                  rw [hQ]; exact jm_iret (no, tu, v, be) hx hb hr hlocks hS hP rfl (by (try dsimp only); first | (rw [if_pos (by omega)]; done) | (rw [if_neg (by omega), if_pos (by omega)]; done) | (rw [if_neg (by omega), if_neg (by omega), if_pos (by omega)]; done) | (rw [if_neg (by omega), if_neg (by omega), if_neg (by omega)]; done)) dX10_toy_102
          · refine lv_iload_n hx hb dX10_toy_45 rfl (lv_at hl 3 rfl) ?_
            refine lv_bipush (v := iI (7)) hx hb dX10_toy_46 (by decide) ?_
            refine j_icmp_gt (tgt := 70) hx hb (by omega) dX10_toy_48 (by decide) (fun c_48_2 => ?_) (fun c_48_2 => ?_)
            · refine lv_iload_n hx hb dX10_toy_70 rfl (lv_at hl 2 rfl) ?_
              refine lv_iconst (v := iI (2)) hx hb dX10_toy_71 rfl ?_
              refine j_icmp_ne (tgt := 101) hx hb (by omega) dX10_toy_72 (by decide) (fun c_72_8 => ?_) (fun c_72_8 => ?_)
              · refine lv_iload_n hx hb dX10_toy_101 rfl (lv_at hl 0 rfl) ?_
                rw [hQ]; exact jm_iret (no, tu, be, -1) hx hb hr hlocks hS hP rfl (by (try dsimp only); first | (rw [if_pos (by omega)]; done) | (rw [if_neg (by omega), if_pos (by omega)]; done) | (rw [if_neg (by omega), if_neg (by omega), if_pos (by omega)]; done) | (rw [if_neg (by omega), if_neg (by omega), if_neg (by omega)]; done)) dX10_toy_102
              · refine lv_iload_n hx hb dX10_toy_75 rfl (lv_at hl 3 rfl) ?_
                refine j_if_lt (tgt := 101) hx hb (by omega) dX10_toy_76 (by decide) (fun c_76_8 => ?_) (fun c_76_8 => ?_)
                · refine lv_iload_n hx hb dX10_toy_101 rfl (lv_at hl 0 rfl) ?_
                  rw [hQ]; exact jm_iret (no, tu, be, -1) hx hb hr hlocks hS hP rfl (by (try dsimp only); first | (rw [if_pos (by omega)]; done) | (rw [if_neg (by omega), if_pos (by omega)]; done) | (rw [if_neg (by omega), if_neg (by omega), if_pos (by omega)]; done) | (rw [if_neg (by omega), if_neg (by omega), if_neg (by omega)]; done)) dX10_toy_102
                · refine lv_iload_n hx hb dX10_toy_79 rfl (lv_at hl 3 rfl) ?_
                  refine lv_bipush (v := iI (9)) hx hb dX10_toy_80 (by decide) ?_
                  refine j_icmp_gt (tgt := 101) hx hb (by omega) dX10_toy_82 (by decide) (fun c_82_8 => ?_) (fun c_82_8 => ?_)
                  · refine lv_iload_n hx hb dX10_toy_101 rfl (lv_at hl 0 rfl) ?_
                    rw [hQ]; exact jm_iret (no, tu, be, -1) hx hb hr hlocks hS hP rfl (by (try dsimp only); first | (rw [if_pos (by omega)]; done) | (rw [if_neg (by omega), if_pos (by omega)]; done) | (rw [if_neg (by omega), if_neg (by omega), if_pos (by omega)]; done) | (rw [if_neg (by omega), if_neg (by omega), if_neg (by omega)]; done)) dX10_toy_102
                  · refine lv_aload_n hx hb dX10_toy_85 rfl (lv_at hl 1 rfl) ?_
                    refine va_get (D := D) (ci := 10) (v := .ref h10) (C := RX10) (T := TX10) (N := 18) hx hb hts UX10 hown hK hP 0 rfl rfl 2 (by decide) L28 (fun _ h9 => h9) rfl dX10_toy_86 ?_
                    refine va_get (D := D) (ci := 7) (v := .int (iI (be))) (C := RX7) (T := TX7) (N := 10) hx hb hts UX7 hown hK hP 1 rfl rfl 8 (by decide) L155 (fun _ h9 => h9) rfl dX10_toy_89 ?_
                    refine lv_istore_n (lv' := [(3, .int (iI (be))), (0, .ref h0), (1, .int (iI (w))), (2, .int (iI (v)))]) hx hb dX10_toy_92 rfl hl (by decide) rfl (fun ls hl => ?_)
                    refine lv_aload_n hx hb dX10_toy_93 rfl (lv_at hl 1 rfl) ?_
                    refine va_get (D := D) (ci := 10) (v := .ref h10) (C := RX10) (T := TX10) (N := 18) hx hb hts UX10 hown hK hP 0 rfl rfl 2 (by decide) L28 (fun _ h9 => h9) rfl dX10_toy_94 ?_
                    refine lv_iload_n hx hb dX10_toy_97 rfl (lv_at hl 3 rfl) ?_
                    refine va_put (D := D) (ci := 7) (v := .int (iI (v))) (ty := .int) (C := RX7) (T := TX7) (N := 10) hx hb hts UX7 tyX7 tyX7_ok nmX7 hown hK hP hD hS 1 rfl rfl 8 (by decide) L155 (fun _ h9 => h9) rfl rfl rfl rfl (Nat.le_of_ble_eq_true rfl) dX10_toy_98 (fun H locs hP hD hS => ?_)
                    have hP : va_P D vwCl [(h0, .inr (10, [.ref h20, .ref h21, .ref h10, .ref h12, .ref h14, .ref h15, .ref h16, .ref h8, .ref h1, .ref h6, .ref h2, .ref h3, .ref h17, .ref h18, .int (iI (tk9)), .ref h19, .int (iI (lt)), .long (lI (tra))])), (h10, .inr (7, [.ref h11, .int (iI (Wi)), .int (iI (Hi)), .int (iI (bl)), .int (iI (sc)), .int (iI (sd)), .int (iI (no)), .int (iI (tu)), .int (iI (v)), .int (iI (sp))])), (h11, .inl (cI, 256, .inl (aI g)))] H := hP
                    have hD : va_D A [(h0, .inr (10, [.ref h20, .ref h21, .ref h10, .ref h12, .ref h14, .ref h15, .ref h16, .ref h8, .ref h1, .ref h6, .ref h2, .ref h3, .ref h17, .ref h18, .int (iI (tk9)), .ref h19, .int (iI (lt)), .long (lI (tra))])), (h10, .inr (7, [.ref h11, .int (iI (Wi)), .int (iI (Hi)), .int (iI (bl)), .int (iI (sc)), .int (iI (sd)), .int (iI (no)), .int (iI (tu)), .int (iI (v)), .int (iI (sp))])), (h11, .inl (cI, 256, .inl (aI g)))] := hD
                    refine lv_iload_n hx hb dX10_toy_101 rfl (lv_at hl 0 rfl) ?_
                    rw [hQ]; exact jm_iret (no, tu, v, be) hx hb hr hlocks hS hP rfl (by (try dsimp only); first | (rw [if_pos (by omega)]; done) | (rw [if_neg (by omega), if_pos (by omega)]; done) | (rw [if_neg (by omega), if_neg (by omega), if_pos (by omega)]; done) | (rw [if_neg (by omega), if_neg (by omega), if_neg (by omega)]; done)) dX10_toy_102
            · refine lv_aload_n hx hb dX10_toy_51 rfl (lv_at hl 1 rfl) ?_
              refine va_get (D := D) (ci := 10) (v := .ref h10) (C := RX10) (T := TX10) (N := 18) hx hb hts UX10 hown hK hP 0 rfl rfl 2 (by decide) L28 (fun _ h9 => h9) rfl dX10_toy_52 ?_
              refine va_get (D := D) (ci := 7) (v := .int (iI (tu))) (C := RX7) (T := TX7) (N := 10) hx hb hts UX7 hown hK hP 1 rfl rfl 7 (by decide) L152 (fun _ h9 => h9) rfl dX10_toy_55 ?_
              refine lv_istore_n (lv' := [(3, .int (iI (tu))), (0, .ref h0), (1, .int (iI (w))), (2, .int (iI (v)))]) hx hb dX10_toy_58 rfl hl (by decide) rfl (fun ls hl => ?_)
              refine lv_aload_n hx hb dX10_toy_59 rfl (lv_at hl 1 rfl) ?_
              refine va_get (D := D) (ci := 10) (v := .ref h10) (C := RX10) (T := TX10) (N := 18) hx hb hts UX10 hown hK hP 0 rfl rfl 2 (by decide) L28 (fun _ h9 => h9) rfl dX10_toy_60 ?_
              refine lv_iload_n hx hb dX10_toy_63 rfl (lv_at hl 3 rfl) ?_
              refine va_put (D := D) (ci := 7) (v := .int (iI (v))) (ty := .int) (C := RX7) (T := TX7) (N := 10) hx hb hts UX7 tyX7 tyX7_ok nmX7 hown hK hP hD hS 1 rfl rfl 7 (by decide) L152 (fun _ h9 => h9) rfl rfl rfl rfl (Nat.le_of_ble_eq_true rfl) dX10_toy_64 (fun H locs hP hD hS => ?_)
              have hP : va_P D vwCl [(h0, .inr (10, [.ref h20, .ref h21, .ref h10, .ref h12, .ref h14, .ref h15, .ref h16, .ref h8, .ref h1, .ref h6, .ref h2, .ref h3, .ref h17, .ref h18, .int (iI (tk9)), .ref h19, .int (iI (lt)), .long (lI (tra))])), (h10, .inr (7, [.ref h11, .int (iI (Wi)), .int (iI (Hi)), .int (iI (bl)), .int (iI (sc)), .int (iI (sd)), .int (iI (no)), .int (iI (v)), .int (iI (be)), .int (iI (sp))])), (h11, .inl (cI, 256, .inl (aI g)))] H := hP
              have hD : va_D A [(h0, .inr (10, [.ref h20, .ref h21, .ref h10, .ref h12, .ref h14, .ref h15, .ref h16, .ref h8, .ref h1, .ref h6, .ref h2, .ref h3, .ref h17, .ref h18, .int (iI (tk9)), .ref h19, .int (iI (lt)), .long (lI (tra))])), (h10, .inr (7, [.ref h11, .int (iI (Wi)), .int (iI (Hi)), .int (iI (bl)), .int (iI (sc)), .int (iI (sd)), .int (iI (no)), .int (iI (v)), .int (iI (be)), .int (iI (sp))])), (h11, .inl (cI, 256, .inl (aI g)))] := hD
              refine lv_goto (tgt := 101) hx hb dX10_toy_67 (by decide) ?_
              refine lv_iload_n hx hb dX10_toy_101 rfl (lv_at hl 0 rfl) ?_
              rw [hQ]; exact jm_iret (no, v, be, tu) hx hb hr hlocks hS hP rfl (by (try dsimp only); first | (rw [if_pos (by omega)]; done) | (rw [if_neg (by omega), if_pos (by omega)]; done) | (rw [if_neg (by omega), if_neg (by omega), if_pos (by omega)]; done) | (rw [if_neg (by omega), if_neg (by omega), if_neg (by omega)]; done)) dX10_toy_102
      · refine lv_aload_n hx hb dX10_toy_16 rfl (lv_at hl 1 rfl) ?_
        refine va_get (D := D) (ci := 10) (v := .ref h10) (C := RX10) (T := TX10) (N := 18) hx hb hts UX10 hown hK hP 0 rfl rfl 2 (by decide) L28 (fun _ h9 => h9) rfl dX10_toy_17 ?_
        refine va_get (D := D) (ci := 7) (v := .int (iI (no))) (C := RX7) (T := TX7) (N := 10) hx hb hts UX7 hown hK hP 1 rfl rfl 6 (by decide) L149 (fun _ h9 => h9) rfl dX10_toy_20 ?_
        refine lv_istore_n (lv' := [(3, .int (iI (no))), (0, .ref h0), (1, .int (iI (w))), (2, .int (iI (v)))]) hx hb dX10_toy_23 rfl hl (by decide) rfl (fun ls hl => ?_)
        refine lv_aload_n hx hb dX10_toy_24 rfl (lv_at hl 1 rfl) ?_
        refine va_get (D := D) (ci := 10) (v := .ref h10) (C := RX10) (T := TX10) (N := 18) hx hb hts UX10 hown hK hP 0 rfl rfl 2 (by decide) L28 (fun _ h9 => h9) rfl dX10_toy_25 ?_
        refine lv_iload_n hx hb dX10_toy_28 rfl (lv_at hl 3 rfl) ?_
        refine va_put (D := D) (ci := 7) (v := .int (iI (v))) (ty := .int) (C := RX7) (T := TX7) (N := 10) hx hb hts UX7 tyX7 tyX7_ok nmX7 hown hK hP hD hS 1 rfl rfl 6 (by decide) L149 (fun _ h9 => h9) rfl rfl rfl rfl (Nat.le_of_ble_eq_true rfl) dX10_toy_29 (fun H locs hP hD hS => ?_)
        have hP : va_P D vwCl [(h0, .inr (10, [.ref h20, .ref h21, .ref h10, .ref h12, .ref h14, .ref h15, .ref h16, .ref h8, .ref h1, .ref h6, .ref h2, .ref h3, .ref h17, .ref h18, .int (iI (tk9)), .ref h19, .int (iI (lt)), .long (lI (tra))])), (h10, .inr (7, [.ref h11, .int (iI (Wi)), .int (iI (Hi)), .int (iI (bl)), .int (iI (sc)), .int (iI (sd)), .int (iI (v)), .int (iI (tu)), .int (iI (be)), .int (iI (sp))])), (h11, .inl (cI, 256, .inl (aI g)))] H := hP
        have hD : va_D A [(h0, .inr (10, [.ref h20, .ref h21, .ref h10, .ref h12, .ref h14, .ref h15, .ref h16, .ref h8, .ref h1, .ref h6, .ref h2, .ref h3, .ref h17, .ref h18, .int (iI (tk9)), .ref h19, .int (iI (lt)), .long (lI (tra))])), (h10, .inr (7, [.ref h11, .int (iI (Wi)), .int (iI (Hi)), .int (iI (bl)), .int (iI (sc)), .int (iI (sd)), .int (iI (v)), .int (iI (tu)), .int (iI (be)), .int (iI (sp))])), (h11, .inl (cI, 256, .inl (aI g)))] := hD
        refine lv_goto (tgt := 101) hx hb dX10_toy_32 (by decide) ?_
        refine lv_iload_n hx hb dX10_toy_101 rfl (lv_at hl 0 rfl) ?_
        rw [hQ]; exact jm_iret (v, tu, be, no) hx hb hr hlocks hS hP rfl (by (try dsimp only); first | (rw [if_pos (by omega)]; done) | (rw [if_neg (by omega), if_pos (by omega)]; done) | (rw [if_neg (by omega), if_neg (by omega), if_pos (by omega)]; done) | (rw [if_neg (by omega), if_neg (by omega), if_neg (by omega)]; done)) dX10_toy_102
abbrev rmX10_track : Room := { frames := 1, cells := 0, slots := 0, locals := 22 }
set_option maxHeartbeats 4000000 in
set_option maxRecDepth 100000 in
theorem c_X10_track (l : Launch) (D : va_G) (cI cZ : ClassId) (z : jZT) (h0 h20 h21 h10 h12 h14 h15 h16 h8 h1 h6 h2 h3 h17 h18 h19 h11 : Nat) (c9 tk9 lt tra Wi Hi bl sc sd no tu be sp : Int) (g tr9 : Int → Int) (hW : 3 ≤ Wi ∧ Wi ≤ 16) (hH : 3 ≤ Hi ∧ Hi ≤ 16) (htk : 0 ≤ tk9 ∧ tk9 ≤ 16) (hc : -2147483648 ≤ c9 ∧ c9 < 2147483648) : jMu (S := Int × (Int → Int) × Int) l yX10_track wsX10_track rmX10_track [.ref h0, .int (iI (c9))] D cI cZ z [(h0, .inr (10, [.ref h20, .ref h21, .ref h10, .ref h12, .ref h14, .ref h15, .ref h16, .ref h8, .ref h1, .ref h6, .ref h2, .ref h3, .ref h17, .ref h18, .int (iI (tk9)), .ref h19, .int (iI (lt)), .long (lI (tra))])), (h10, .inr (7, [.ref h11, .int (iI (Wi)), .int (iI (Hi)), .int (iI (bl)), .int (iI (sc)), .int (iI (sd)), .int (iI (no)), .int (iI (tu)), .int (iI (be)), .int (iI (sp))])), (h11, .inl (cI, 256, .inl (aI g))), (h18, .inl (cI, 16, .inl (aI tr9)))] (fun u => some (.int (iI (u.2.2)))) (fun u => if c9 < 0 ∨ Wi * Hi ≤ c9 then u.2.2 = -1 ∧ u.1 = tk9 ∧ u.2.1 = tr9 else if tk9 = 16 then u.2.2 = -3 ∧ u.1 = tk9 ∧ u.2.1 = tr9 else u.2.2 = tk9 + 1 ∧ u.1 = tk9 + 1 ∧ u.2.1 = upZ tr9 tk9 c9) (fun u => [(h0, .inr (10, [.ref h20, .ref h21, .ref h10, .ref h12, .ref h14, .ref h15, .ref h16, .ref h8, .ref h1, .ref h6, .ref h2, .ref h3, .ref h17, .ref h18, .int (iI (u.1)), .ref h19, .int (iI (lt)), .long (lI (tra))])), (h10, .inr (7, [.ref h11, .int (iI (Wi)), .int (iI (Hi)), .int (iI (bl)), .int (iI (sc)), .int (iI (sd)), .int (iI (no)), .int (iI (tu)), .int (iI (be)), .int (iI (sp))])), (h11, .inl (cI, 256, .inl (aI g))), (h18, .inl (cI, 16, .inl (aI u.2.1)))]) := by
  refine jMu_of (cc := cX10_track) (n := 2) (ret := (some .int)) (by decide) rfl (Nat.le_of_ble_eq_true rfl) ?_
  intro p e s m below meth c A ls args Q hQ F hA hZ hP hK hD hS hl
  obtain ⟨hx, hb, hr, hml, hown, hts, hlocks⟩ := F
  have hown : s.vm.findClass RX10 = some m.cls := hown
  have hl : lv_has ls 2 [(0, .ref h0), (1, .int (iI (c9)))] := hl
  have L28 := hts (.fieldLink RX10 28 "TinMouse" "table" "LTinMouse$Table;") (by decide +kernel)
  have L121 := hts (.fieldLink RX10 121 "TinMouse" "trackCount" "I") (by decide +kernel)
  have L93 := hts (.fieldLink RX10 93 "TinMouse" "tracks" "[I") (by decide +kernel)
  have UX10 : ∀ w ∈ wsX100, w ∈ wsX10_track := fun w h => List.mem_cons_of_mem _ (List.mem_append_left _ (List.mem_append_right _ h))
  have hwh := wh_rng hW hH
  refine lv_iload_n hx hb dX10_track_0 rfl (lv_at hl 1 rfl) ?_
  refine j_if_lt (tgt := 15) hx hb (by omega) dX10_track_1 (by decide) (fun c_1 => ?_) (fun c_1 => ?_)
  · refine lv_iconst (v := iI (-1)) hx hb dX10_track_15 rfl ?_
    rw [hQ]; exact jm_iret (tk9, tr9, -1) hx hb hr hlocks hS hP rfl (by (try dsimp only); first | (rw [if_pos (by omega)]; exact ⟨rfl, rfl, rfl⟩) | (rw [if_neg (by omega), if_pos (by omega)]; exact ⟨rfl, rfl, rfl⟩) | (rw [if_neg (by omega), if_neg (by omega)]; exact ⟨rfl, rfl, by rw [hw_38, setI_in (by omega)]⟩)) dX10_track_16
  · refine lv_iload_n hx hb dX10_track_4 rfl (lv_at hl 1 rfl) ?_
    refine lv_aload_n hx hb dX10_track_5 rfl (lv_at hl 0 rfl) ?_
    refine va_get (D := D) (ci := 10) (v := .ref h10) (C := RX10) (T := TX10) (N := 18) hx hb hts UX10 hown hK hP 0 rfl rfl 2 (by decide) L28 (fun _ h9 => h9) rfl dX10_track_6 ?_
    refine j_rd (va_runV (As := []) (rest := [.int (iI (c9))]) ⟨hx, hb, hml, hown, hts⟩ (c_X7_size l D cI cZ z h10 h11 Wi Hi bl sc sd no tu be sp g  s.heap.size) (cwV 0 hts gX10_track_X7_size rfl rfl rfl hvX7_size ⟨Nat.le_of_ble_eq_true rfl, Nat.le_of_ble_eq_true rfl⟩) (j_preV hP hD hK hS hZ hA [1, 2] rfl rfl 1 rfl rfl) rfl rfl hl.1 rfl (lv_room (Nat.le_of_ble_eq_true rfl)) dX10_track_9 ⟨Nat.zero_le _, Nat.zero_le _⟩) ?_
    refine j_icmp_lt (tgt := 17) hx hb (by omega) dX10_track_12 (by decide) (fun c_12 => ?_) (fun c_12 => ?_)
    · refine lv_aload_n hx hb dX10_track_17 rfl (lv_at hl 0 rfl) ?_
      refine va_get (D := D) (ci := 10) (v := .int (iI (tk9))) (C := RX10) (T := TX10) (N := 18) hx hb hts UX10 hown hK hP 0 rfl rfl 14 (by decide) L121 (fun _ h9 => h9) rfl dX10_track_18 ?_
      refine lv_bipush (v := iI (16)) hx hb dX10_track_21 (by decide) ?_
      refine j_icmp_lt (tgt := 29) hx hb (by omega) dX10_track_23 (by decide) (fun c_23 => ?_) (fun c_23 => ?_)
      · refine lv_aload_n hx hb dX10_track_29 rfl (lv_at hl 0 rfl) ?_
        refine va_get (D := D) (ci := 10) (v := .ref h18) (C := RX10) (T := TX10) (N := 18) hx hb hts UX10 hown hK hP 0 rfl rfl 13 (by decide) L93 (fun _ h9 => h9) rfl dX10_track_30 ?_
        refine lv_aload_n hx hb dX10_track_33 rfl (lv_at hl 0 rfl) ?_
        refine va_get (D := D) (ci := 10) (v := .int (iI (tk9))) (C := RX10) (T := TX10) (N := 18) hx hb hts UX10 hown hK hP 0 rfl rfl 14 (by decide) L121 (fun _ h9 => h9) rfl dX10_track_34 ?_
        refine lv_iload_n hx hb dX10_track_37 rfl (lv_at hl 1 rfl) ?_
        refine j_muv (va_runS (As := [.ref h18, .int (iI (tk9)), .int (iI (c9))]) (rest := []) ⟨hx, hb, hml, hown, hts⟩ (c_X10_set l D cI cZ z h18 tk9 c9 tr9 16 (by first | assumption | omega) (by first | assumption | omega) s.heap.size) (va_cwS 3 hts gX10_track_X10_set rfl rfl rfl hsX10_set ⟨Nat.le_of_ble_eq_true rfl, Nat.le_of_ble_eq_true rfl⟩) (j_preS hP hD hK hS hZ hA [3] rfl rfl) rfl rfl hl.1 rfl (lv_room (Nat.le_of_ble_eq_true rfl)) dX10_track_38 ⟨Nat.zero_le _, Nat.zero_le _⟩) hP hD hS hA [3] rfl (fun _ => rfl) (fun g2_1 H locs hw_38 hP hD hS => ?_)
        have hP : va_P D vwCl [(h0, .inr (10, [.ref h20, .ref h21, .ref h10, .ref h12, .ref h14, .ref h15, .ref h16, .ref h8, .ref h1, .ref h6, .ref h2, .ref h3, .ref h17, .ref h18, .int (iI (tk9)), .ref h19, .int (iI (lt)), .long (lI (tra))])), (h10, .inr (7, [.ref h11, .int (iI (Wi)), .int (iI (Hi)), .int (iI (bl)), .int (iI (sc)), .int (iI (sd)), .int (iI (no)), .int (iI (tu)), .int (iI (be)), .int (iI (sp))])), (h11, .inl (cI, 256, .inl (aI g))), (h18, .inl (cI, 16, .inl (aI g2_1)))] H := hP
        have hD : va_D A [(h0, .inr (10, [.ref h20, .ref h21, .ref h10, .ref h12, .ref h14, .ref h15, .ref h16, .ref h8, .ref h1, .ref h6, .ref h2, .ref h3, .ref h17, .ref h18, .int (iI (tk9)), .ref h19, .int (iI (lt)), .long (lI (tra))])), (h10, .inr (7, [.ref h11, .int (iI (Wi)), .int (iI (Hi)), .int (iI (bl)), .int (iI (sc)), .int (iI (sd)), .int (iI (no)), .int (iI (tu)), .int (iI (be)), .int (iI (sp))])), (h11, .inl (cI, 256, .inl (aI g))), (h18, .inl (cI, 16, .inl (aI g2_1)))] := hD
        refine lv_aload_n hx hb dX10_track_41 rfl (lv_at hl 0 rfl) ?_
        refine lv_dup hx hb dX10_track_42 rfl ?_
        refine va_get (D := D) (ci := 10) (v := .int (iI (tk9))) (C := RX10) (T := TX10) (N := 18) hx hb hts UX10 hown hK hP 0 rfl rfl 14 (by decide) L121 (fun _ h9 => h9) rfl dX10_track_43 ?_
        refine lv_iconst (v := iI (1)) hx hb dX10_track_46 rfl ?_
        refine j_iadd hx hb dX10_track_47 ?_
        refine va_put (D := D) (ci := 10) (v := .int (iI (tk9 + 1))) (ty := .int) (C := RX10) (T := TX10) (N := 18) hx hb hts UX10 tyX10 tyX10_ok nmX10 hown hK hP hD hS 0 rfl rfl 14 (by decide) L121 (fun _ h9 => h9) rfl rfl rfl rfl (Nat.le_of_ble_eq_true rfl) dX10_track_48 (fun H locs hP hD hS => ?_)
        have hP : va_P D vwCl [(h0, .inr (10, [.ref h20, .ref h21, .ref h10, .ref h12, .ref h14, .ref h15, .ref h16, .ref h8, .ref h1, .ref h6, .ref h2, .ref h3, .ref h17, .ref h18, .int (iI (tk9 + 1)), .ref h19, .int (iI (lt)), .long (lI (tra))])), (h10, .inr (7, [.ref h11, .int (iI (Wi)), .int (iI (Hi)), .int (iI (bl)), .int (iI (sc)), .int (iI (sd)), .int (iI (no)), .int (iI (tu)), .int (iI (be)), .int (iI (sp))])), (h11, .inl (cI, 256, .inl (aI g))), (h18, .inl (cI, 16, .inl (aI g2_1)))] H := hP
        have hD : va_D A [(h0, .inr (10, [.ref h20, .ref h21, .ref h10, .ref h12, .ref h14, .ref h15, .ref h16, .ref h8, .ref h1, .ref h6, .ref h2, .ref h3, .ref h17, .ref h18, .int (iI (tk9 + 1)), .ref h19, .int (iI (lt)), .long (lI (tra))])), (h10, .inr (7, [.ref h11, .int (iI (Wi)), .int (iI (Hi)), .int (iI (bl)), .int (iI (sc)), .int (iI (sd)), .int (iI (no)), .int (iI (tu)), .int (iI (be)), .int (iI (sp))])), (h11, .inl (cI, 256, .inl (aI g))), (h18, .inl (cI, 16, .inl (aI g2_1)))] := hD
        refine lv_aload_n hx hb dX10_track_51 rfl (lv_at hl 0 rfl) ?_
        refine va_get (D := D) (ci := 10) (v := .int (iI (tk9 + 1))) (C := RX10) (T := TX10) (N := 18) hx hb hts UX10 hown hK hP 0 rfl rfl 14 (by decide) L121 (fun _ h9 => h9) rfl dX10_track_52 ?_
        rw [hQ]; exact jm_iret (tk9 + 1, g2_1, tk9 + 1) hx hb hr hlocks hS hP rfl (by (try dsimp only); first | (rw [if_pos (by omega)]; exact ⟨rfl, rfl, rfl⟩) | (rw [if_neg (by omega), if_pos (by omega)]; exact ⟨rfl, rfl, rfl⟩) | (rw [if_neg (by omega), if_neg (by omega)]; exact ⟨rfl, rfl, by rw [hw_38, setI_in (by omega)]⟩)) dX10_track_55
      · refine lv_bipush (v := iI (-3)) hx hb dX10_track_26 (by decide) ?_
        rw [hQ]; exact jm_iret (tk9, tr9, -3) hx hb hr hlocks hS hP rfl (by (try dsimp only); first | (rw [if_pos (by omega)]; exact ⟨rfl, rfl, rfl⟩) | (rw [if_neg (by omega), if_pos (by omega)]; exact ⟨rfl, rfl, rfl⟩) | (rw [if_neg (by omega), if_neg (by omega)]; exact ⟨rfl, rfl, by rw [hw_38, setI_in (by omega)]⟩)) dX10_track_28
    · refine lv_iconst (v := iI (-1)) hx hb dX10_track_15 rfl ?_
      rw [hQ]; exact jm_iret (tk9, tr9, -1) hx hb hr hlocks hS hP rfl (by (try dsimp only); first | (rw [if_pos (by omega)]; exact ⟨rfl, rfl, rfl⟩) | (rw [if_neg (by omega), if_pos (by omega)]; exact ⟨rfl, rfl, rfl⟩) | (rw [if_neg (by omega), if_neg (by omega)]; exact ⟨rfl, rfl, by rw [hw_38, setI_in (by omega)]⟩)) dX10_track_16
theorem hsX7_countOf : yX7_countOf.cls ≠ "java/lang/invoke/MethodHandle" ∧ yX7_countOf.cls ≠ "java/lang/invoke/VarHandle" ∧ (parseMethodDescriptor yX7_countOf.desc).map (fun d => d.parameters.length) = some 1 := by decide +kernel
theorem hvX7_countOf : yX7_countOf.cls = RX7 ∧ yX7_countOf.cls ≠ "java/lang/invoke/MethodHandle" ∧ yX7_countOf.cls ≠ "java/lang/invoke/VarHandle" ∧ (parseMethodDescriptor yX7_countOf.desc).map (fun d => d.parameters.length) = some 1 := ⟨rfl, hsX7_countOf⟩
abbrev rmX10_count : Room := { frames := 2, cells := 0, slots := 0, locals := 44 }
set_option maxHeartbeats 4000000 in
set_option maxRecDepth 100000 in
theorem c_X10_count (l : Launch) (D : va_G) (cI cZ : ClassId) (z : jZT) (h0 h20 h21 h10 h12 h14 h15 h16 h8 h1 h6 h2 h3 h17 h18 h19 h11 h26 h27 h22 : Nat) (w tk9 lt tra Wi Hi bl sc sd no tu be sp km ku kl tn pl fi so va : Int) (g : Int → Int) (hW : 3 ≤ Wi ∧ Wi ≤ 16) (hH : 3 ≤ Hi ∧ Hi ≤ 16) (hg : ∀ j : Int, 0 ≤ j → j < 256 → 0 ≤ g j ∧ g j ≤ 2) (hw : -2147483648 ≤ w ∧ w < 2147483648) : jRd l yX10_count wsX10_count rmX10_count [.ref h0, .int (iI (w))] D cI cZ z [(h0, .inr (10, [.ref h20, .ref h21, .ref h10, .ref h12, .ref h14, .ref h15, .ref h16, .ref h8, .ref h1, .ref h6, .ref h2, .ref h3, .ref h17, .ref h18, .int (iI (tk9)), .ref h19, .int (iI (lt)), .long (lI (tra))])), (h10, .inr (7, [.ref h11, .int (iI (Wi)), .int (iI (Hi)), .int (iI (bl)), .int (iI (sc)), .int (iI (sd)), .int (iI (no)), .int (iI (tu)), .int (iI (be)), .int (iI (sp))])), (h11, .inl (cI, 256, .inl (aI g))), (h19, .inr (1, [.ref h26, .ref h27, .int (iI (km)), .long (lI (ku)), .long (lI (kl))])), (h20, .inr (8, [.ref h22, .int (iI (tn)), .int (iI (pl)), .int (iI (fi)), .int (iI (so)), .int (iI (va))]))] (some (.int (iI (cntF w Wi Hi g tk9 km tn)))) := by
  refine jRd_of (cc := cX10_count) (n := 2) (ret := (some .int)) (by decide) rfl (Nat.le_of_ble_eq_true rfl) ?_
  intro p e s m below meth c A ls args Q hQ F hA hZ hP hK hD hS hl
  obtain ⟨hx, hb, hr, hml, hown, hts, hlocks⟩ := F
  have hown : s.vm.findClass RX10 = some m.cls := hown
  have hl : lv_has ls 2 [(0, .ref h0), (1, .int (iI (w)))] := hl
  have L28 := hts (.fieldLink RX10 28 "TinMouse" "table" "LTinMouse$Table;") (by decide +kernel)
  have L121 := hts (.fieldLink RX10 121 "TinMouse" "trackCount" "I") (by decide +kernel)
  have L99 := hts (.fieldLink RX10 99 "TinMouse" "keys" "LTinMouse$Keys;") (by decide +kernel)
  have L323 := hts (.fieldLink RX10 323 "TinMouse$Keys" "many" "I") (by decide +kernel)
  have L12 := hts (.fieldLink RX10 12 "TinMouse" "text" "LTinMouse$Text;") (by decide +kernel)
  have L111 := hts (.fieldLink RX10 111 "TinMouse$Text" "length" "I") (by decide +kernel)
  have UX1 : ∀ w ∈ wsX10, w ∈ wsX10_count := fun w h => List.mem_cons_of_mem _ (List.mem_append_left _ (List.mem_append_left _ (List.mem_append_right _ h)))
  have UX10 : ∀ w ∈ wsX100, w ∈ wsX10_count := fun w h => List.mem_cons_of_mem _ (List.mem_append_left _ (List.mem_append_left _ (List.mem_append_left _ (List.mem_append_right _ h))))
  have UX8 : ∀ w ∈ wsX80, w ∈ wsX10_count := fun w h => List.mem_cons_of_mem _ (List.mem_append_left _ (List.mem_append_right _ h))
  have hwh := wh_rng hW hH
  refine lv_iload_n hx hb dX10_count_0 rfl (lv_at hl 1 rfl) ?_
  rcases (show (w < 0 ∨ 5 < w) ∨ w = 0 ∨ w = 1 ∨ w = 2 ∨ w = 3 ∨ w = 4 ∨ w = 5 by omega) with h_1 | h_1 | h_1 | h_1 | h_1 | h_1 | h_1
  · refine lv_tableOut (tgt := 88) hx hb dX10_count_1 (by rw [iI_toInt (by omega)]; exact h_1) (by decide) ?_
    refine lv_iconst (v := iI (-1)) hx hb dX10_count_88 rfl ?_
    rw [hQ]; exact jr_iret hx hb hr hlocks (jo_i (by unfold cntF; first | (rw [if_pos (by omega)]; first | (rw [show w = 0 by omega]; done) | (rw [show w = 1 by omega]; done) | (rw [show w = 2 by omega]; done)) | (rw [if_neg (by omega)]; omega))) dX10_count_89
  · have h9 : (iI (w)).toInt = 0 := by rw [h_1]; decide
    refine lv_tableIn (tgt := 40) hx hb dX10_count_1 (by rw [h9]; decide) (by rw [h9]; decide) (by rw [h9]; rfl) (by decide) ?_
    refine lv_aload_n hx hb dX10_count_40 rfl (lv_at hl 0 rfl) ?_
    refine va_get (D := D) (ci := 10) (v := .ref h10) (C := RX10) (T := TX10) (N := 18) hx hb hts UX10 hown hK hP 0 rfl rfl 2 (by decide) L28 (fun _ h9 => h9) rfl dX10_count_41 ?_
    refine lv_iconst (v := iI (0)) hx hb dX10_count_44 rfl ?_
    refine j_rd (va_runV (As := [.int (iI (0))]) (rest := []) ⟨hx, hb, hml, hown, hts⟩ (c_X7_countOf l D cI cZ z h10 h11 0 Wi Hi bl sc sd no tu be sp g (by first | assumption | omega) (by first | assumption | omega) (by first | assumption | omega) (by first | assumption | omega) s.heap.size) (cwV 1 hts gX10_count_X7_countOf rfl rfl rfl hvX7_countOf ⟨Nat.le_of_ble_eq_true rfl, Nat.le_of_ble_eq_true rfl⟩) (j_preV hP hD hK hS hZ hA [1, 2] rfl rfl 1 rfl rfl) rfl rfl hl.1 rfl (lv_room (Nat.le_of_ble_eq_true rfl)) dX10_count_45 ⟨Nat.zero_le _, Nat.zero_le _⟩) ?_
    rw [hQ]; exact jr_iret hx hb hr hlocks (jo_i (by unfold cntF; first | (rw [if_pos (by omega)]; first | (rw [show w = 0 by omega]; done) | (rw [show w = 1 by omega]; done) | (rw [show w = 2 by omega]; done)) | (rw [if_neg (by omega)]; omega))) dX10_count_48
  · have h9 : (iI (w)).toInt = 1 := by rw [h_1]; decide
    refine lv_tableIn (tgt := 49) hx hb dX10_count_1 (by rw [h9]; decide) (by rw [h9]; decide) (by rw [h9]; rfl) (by decide) ?_
    refine lv_aload_n hx hb dX10_count_49 rfl (lv_at hl 0 rfl) ?_
    refine va_get (D := D) (ci := 10) (v := .ref h10) (C := RX10) (T := TX10) (N := 18) hx hb hts UX10 hown hK hP 0 rfl rfl 2 (by decide) L28 (fun _ h9 => h9) rfl dX10_count_50 ?_
    refine lv_iconst (v := iI (1)) hx hb dX10_count_53 rfl ?_
    refine j_rd (va_runV (As := [.int (iI (1))]) (rest := []) ⟨hx, hb, hml, hown, hts⟩ (c_X7_countOf l D cI cZ z h10 h11 1 Wi Hi bl sc sd no tu be sp g (by first | assumption | omega) (by first | assumption | omega) (by first | assumption | omega) (by first | assumption | omega) s.heap.size) (cwV 1 hts gX10_count_X7_countOf rfl rfl rfl hvX7_countOf ⟨Nat.le_of_ble_eq_true rfl, Nat.le_of_ble_eq_true rfl⟩) (j_preV hP hD hK hS hZ hA [1, 2] rfl rfl 1 rfl rfl) rfl rfl hl.1 rfl (lv_room (Nat.le_of_ble_eq_true rfl)) dX10_count_54 ⟨Nat.zero_le _, Nat.zero_le _⟩) ?_
    rw [hQ]; exact jr_iret hx hb hr hlocks (jo_i (by unfold cntF; first | (rw [if_pos (by omega)]; first | (rw [show w = 0 by omega]; done) | (rw [show w = 1 by omega]; done) | (rw [show w = 2 by omega]; done)) | (rw [if_neg (by omega)]; omega))) dX10_count_57
  · have h9 : (iI (w)).toInt = 2 := by rw [h_1]; decide
    refine lv_tableIn (tgt := 58) hx hb dX10_count_1 (by rw [h9]; decide) (by rw [h9]; decide) (by rw [h9]; rfl) (by decide) ?_
    refine lv_aload_n hx hb dX10_count_58 rfl (lv_at hl 0 rfl) ?_
    refine va_get (D := D) (ci := 10) (v := .ref h10) (C := RX10) (T := TX10) (N := 18) hx hb hts UX10 hown hK hP 0 rfl rfl 2 (by decide) L28 (fun _ h9 => h9) rfl dX10_count_59 ?_
    refine lv_iconst (v := iI (2)) hx hb dX10_count_62 rfl ?_
    refine j_rd (va_runV (As := [.int (iI (2))]) (rest := []) ⟨hx, hb, hml, hown, hts⟩ (c_X7_countOf l D cI cZ z h10 h11 2 Wi Hi bl sc sd no tu be sp g (by first | assumption | omega) (by first | assumption | omega) (by first | assumption | omega) (by first | assumption | omega) s.heap.size) (cwV 1 hts gX10_count_X7_countOf rfl rfl rfl hvX7_countOf ⟨Nat.le_of_ble_eq_true rfl, Nat.le_of_ble_eq_true rfl⟩) (j_preV hP hD hK hS hZ hA [1, 2] rfl rfl 1 rfl rfl) rfl rfl hl.1 rfl (lv_room (Nat.le_of_ble_eq_true rfl)) dX10_count_63 ⟨Nat.zero_le _, Nat.zero_le _⟩) ?_
    rw [hQ]; exact jr_iret hx hb hr hlocks (jo_i (by unfold cntF; first | (rw [if_pos (by omega)]; first | (rw [show w = 0 by omega]; done) | (rw [show w = 1 by omega]; done) | (rw [show w = 2 by omega]; done)) | (rw [if_neg (by omega)]; omega))) dX10_count_66
  · have h9 : (iI (w)).toInt = 3 := by rw [h_1]; decide
    refine lv_tableIn (tgt := 67) hx hb dX10_count_1 (by rw [h9]; decide) (by rw [h9]; decide) (by rw [h9]; rfl) (by decide) ?_
    refine lv_aload_n hx hb dX10_count_67 rfl (lv_at hl 0 rfl) ?_
    refine va_get (D := D) (ci := 10) (v := .int (iI (tk9))) (C := RX10) (T := TX10) (N := 18) hx hb hts UX10 hown hK hP 0 rfl rfl 14 (by decide) L121 (fun _ h9 => h9) rfl dX10_count_68 ?_
    rw [hQ]; exact jr_iret hx hb hr hlocks (jo_i (by unfold cntF; first | (rw [if_pos (by omega)]; first | (rw [show w = 0 by omega]; done) | (rw [show w = 1 by omega]; done) | (rw [show w = 2 by omega]; done)) | (rw [if_neg (by omega)]; omega))) dX10_count_71
  · have h9 : (iI (w)).toInt = 4 := by rw [h_1]; decide
    refine lv_tableIn (tgt := 72) hx hb dX10_count_1 (by rw [h9]; decide) (by rw [h9]; decide) (by rw [h9]; rfl) (by decide) ?_
    refine lv_aload_n hx hb dX10_count_72 rfl (lv_at hl 0 rfl) ?_
    refine va_get (D := D) (ci := 10) (v := .ref h19) (C := RX10) (T := TX10) (N := 18) hx hb hts UX10 hown hK hP 0 rfl rfl 15 (by decide) L99 (fun _ h9 => h9) rfl dX10_count_73 ?_
    refine va_get (D := D) (ci := 1) (v := .int (iI (km))) (C := RX1) (T := TX1) (N := 5) hx hb hts UX1 hown hK hP 3 rfl rfl 2 (by decide) L323 (fun _ h9 => h9) rfl dX10_count_76 ?_
    rw [hQ]; exact jr_iret hx hb hr hlocks (jo_i (by unfold cntF; first | (rw [if_pos (by omega)]; first | (rw [show w = 0 by omega]; done) | (rw [show w = 1 by omega]; done) | (rw [show w = 2 by omega]; done)) | (rw [if_neg (by omega)]; omega))) dX10_count_79
  · have h9 : (iI (w)).toInt = 5 := by rw [h_1]; decide
    refine lv_tableIn (tgt := 80) hx hb dX10_count_1 (by rw [h9]; decide) (by rw [h9]; decide) (by rw [h9]; rfl) (by decide) ?_
    refine lv_aload_n hx hb dX10_count_80 rfl (lv_at hl 0 rfl) ?_
    refine va_get (D := D) (ci := 10) (v := .ref h20) (C := RX10) (T := TX10) (N := 18) hx hb hts UX10 hown hK hP 0 rfl rfl 0 (by decide) L12 (fun _ h9 => h9) rfl dX10_count_81 ?_
    refine va_get (D := D) (ci := 8) (v := .int (iI (tn))) (C := RX8) (T := TX8) (N := 6) hx hb hts UX8 hown hK hP 4 rfl rfl 1 (by decide) L111 (fun _ h9 => h9) rfl dX10_count_84 ?_
    rw [hQ]; exact jr_iret hx hb hr hlocks (jo_i (by unfold cntF; first | (rw [if_pos (by omega)]; first | (rw [show w = 0 by omega]; done) | (rw [show w = 1 by omega]; done) | (rw [show w = 2 by omega]; done)) | (rw [if_neg (by omega)]; omega))) dX10_count_87
theorem hsX1_add : yX1_add.cls ≠ "java/lang/invoke/MethodHandle" ∧ yX1_add.cls ≠ "java/lang/invoke/VarHandle" ∧ (parseMethodDescriptor yX1_add.desc).map (fun d => d.parameters.length) = some 2 := by decide +kernel
theorem hvX1_add : yX1_add.cls = RX1 ∧ yX1_add.cls ≠ "java/lang/invoke/MethodHandle" ∧ yX1_add.cls ≠ "java/lang/invoke/VarHandle" ∧ (parseMethodDescriptor yX1_add.desc).map (fun d => d.parameters.length) = some 2 := ⟨rfl, hsX1_add⟩
abbrev rmX10_key : Room := { frames := 2, cells := 0, slots := 0, locals := 44 }
set_option maxHeartbeats 4000000 in
set_option maxRecDepth 100000 in
theorem c_X10_key (l : Launch) (D : va_G) (cI cZ : ClassId) (z : jZT) (h0 h20 h21 h10 h12 h14 h15 h16 h8 h1 h6 h2 h3 h17 h18 h19 h26 h27 : Nat) (t9 s9 tk9 lt tra km ku kl : Int) (kt ks : Int → Int) (hkm : 0 ≤ km ∧ km ≤ 20) (ht9 : -2147483648 ≤ t9 ∧ t9 < 2147483648) (hs9 : -2147483648 ≤ s9 ∧ s9 < 2147483648) : jMu (S := (Int → Int) × (Int → Int) × Int × Int) l yX10_key wsX10_key rmX10_key [.ref h0, .int (iI (t9)), .int (iI (s9))] D cI cZ z [(h0, .inr (10, [.ref h20, .ref h21, .ref h10, .ref h12, .ref h14, .ref h15, .ref h16, .ref h8, .ref h1, .ref h6, .ref h2, .ref h3, .ref h17, .ref h18, .int (iI (tk9)), .ref h19, .int (iI (lt)), .long (lI (tra))])), (h19, .inr (1, [.ref h26, .ref h27, .int (iI (km)), .long (lI (ku)), .long (lI (kl))])), (h26, .inl (cI, 20, .inl (aI kt))), (h27, .inl (cI, 20, .inl (aI ks)))] (fun u => some (.int (iI (u.2.2.2)))) (fun u => if t9 < 1 ∨ 9 < t9 ∨ s9 < 0 ∨ 999 < s9 then u.2.2.2 = -1 ∧ u.1 = kt ∧ u.2.1 = ks ∧ u.2.2.1 = km else if km = 20 then u.2.2.2 = -3 ∧ u.1 = kt ∧ u.2.1 = ks ∧ u.2.2.1 = km else u.2.2.2 = km + 1 ∧ u.1 = upZ kt km t9 ∧ u.2.1 = upZ ks km s9 ∧ u.2.2.1 = km + 1) (fun u => [(h0, .inr (10, [.ref h20, .ref h21, .ref h10, .ref h12, .ref h14, .ref h15, .ref h16, .ref h8, .ref h1, .ref h6, .ref h2, .ref h3, .ref h17, .ref h18, .int (iI (tk9)), .ref h19, .int (iI (lt)), .long (lI (tra))])), (h19, .inr (1, [.ref h26, .ref h27, .int (iI (u.2.2.1)), .long (lI (ku)), .long (lI (kl))])), (h26, .inl (cI, 20, .inl (aI u.1))), (h27, .inl (cI, 20, .inl (aI u.2.1)))]) := by
  refine jMu_of (cc := cX10_key) (n := 3) (ret := (some .int)) (by decide) rfl (Nat.le_of_ble_eq_true rfl) ?_
  intro p e s m below meth c A ls args Q hQ F hA hZ hP hK hD hS hl
  obtain ⟨hx, hb, hr, hml, hown, hts, hlocks⟩ := F
  have hown : s.vm.findClass RX10 = some m.cls := hown
  have hl : lv_has ls 3 [(0, .ref h0), (1, .int (iI (t9))), (2, .int (iI (s9)))] := hl
  have L99 := hts (.fieldLink RX10 99 "TinMouse" "keys" "LTinMouse$Keys;") (by decide +kernel)
  have L323 := hts (.fieldLink RX10 323 "TinMouse$Keys" "many" "I") (by decide +kernel)
  have UX1 : ∀ w ∈ wsX10, w ∈ wsX10_key := fun w h => List.mem_cons_of_mem _ (List.mem_append_right _ h)
  have UX10 : ∀ w ∈ wsX100, w ∈ wsX10_key := fun w h => List.mem_cons_of_mem _ (List.mem_append_left _ (List.mem_append_right _ h))
  refine lv_iload_n hx hb dX10_key_0 rfl (lv_at hl 1 rfl) ?_
  refine lv_iconst (v := iI (1)) hx hb dX10_key_1 rfl ?_
  refine j_icmp_lt (tgt := 22) hx hb (by omega) dX10_key_2 (by decide) (fun c_2 => ?_) (fun c_2 => ?_)
  · refine lv_iconst (v := iI (-1)) hx hb dX10_key_22 rfl ?_
    rw [hQ]; exact jm_iret (kt, ks, km, -1) hx hb hr hlocks hS hP rfl (by (try dsimp only); first | (rw [if_pos (by omega)]; exact ⟨rfl, rfl, rfl, rfl⟩) | (rw [if_neg (by omega)]; first | (rw [if_pos (by omega)]; exact ⟨rfl, by rw [ha1, if_neg (by omega)], by rw [ha2, if_neg (by omega)], by rw [ha3, if_neg (by omega)]⟩) | (rw [if_neg (by omega)]; exact ⟨by omega, by rw [ha1, if_pos (by omega)], by rw [ha2, if_pos (by omega)], by rw [ha3, if_pos (by omega)]⟩))) dX10_key_23
  · refine lv_iload_n hx hb dX10_key_5 rfl (lv_at hl 1 rfl) ?_
    refine lv_bipush (v := iI (9)) hx hb dX10_key_6 (by decide) ?_
    refine j_icmp_gt (tgt := 22) hx hb (by omega) dX10_key_8 (by decide) (fun c_8 => ?_) (fun c_8 => ?_)
    · refine lv_iconst (v := iI (-1)) hx hb dX10_key_22 rfl ?_
      rw [hQ]; exact jm_iret (kt, ks, km, -1) hx hb hr hlocks hS hP rfl (by (try dsimp only); first | (rw [if_pos (by omega)]; exact ⟨rfl, rfl, rfl, rfl⟩) | (rw [if_neg (by omega)]; first | (rw [if_pos (by omega)]; exact ⟨rfl, by rw [ha1, if_neg (by omega)], by rw [ha2, if_neg (by omega)], by rw [ha3, if_neg (by omega)]⟩) | (rw [if_neg (by omega)]; exact ⟨by omega, by rw [ha1, if_pos (by omega)], by rw [ha2, if_pos (by omega)], by rw [ha3, if_pos (by omega)]⟩))) dX10_key_23
    · refine lv_iload_n hx hb dX10_key_11 rfl (lv_at hl 2 rfl) ?_
      refine j_if_lt (tgt := 22) hx hb (by omega) dX10_key_12 (by decide) (fun c_12 => ?_) (fun c_12 => ?_)
      · refine lv_iconst (v := iI (-1)) hx hb dX10_key_22 rfl ?_
        rw [hQ]; exact jm_iret (kt, ks, km, -1) hx hb hr hlocks hS hP rfl (by (try dsimp only); first | (rw [if_pos (by omega)]; exact ⟨rfl, rfl, rfl, rfl⟩) | (rw [if_neg (by omega)]; first | (rw [if_pos (by omega)]; exact ⟨rfl, by rw [ha1, if_neg (by omega)], by rw [ha2, if_neg (by omega)], by rw [ha3, if_neg (by omega)]⟩) | (rw [if_neg (by omega)]; exact ⟨by omega, by rw [ha1, if_pos (by omega)], by rw [ha2, if_pos (by omega)], by rw [ha3, if_pos (by omega)]⟩))) dX10_key_23
      · refine lv_iload_n hx hb dX10_key_15 rfl (lv_at hl 2 rfl) ?_
        refine lv_sipush (v := iI (999)) hx hb dX10_key_16 (by decide) ?_
        refine j_icmp_le (tgt := 24) hx hb (by omega) dX10_key_19 (by decide) (fun c_19 => ?_) (fun c_19 => ?_)
        · refine lv_aload_n hx hb dX10_key_24 rfl (lv_at hl 0 rfl) ?_
          refine va_get (D := D) (ci := 10) (v := .ref h19) (C := RX10) (T := TX10) (N := 18) hx hb hts UX10 hown hK hP 0 rfl rfl 15 (by decide) L99 (fun _ h9 => h9) rfl dX10_key_25 ?_
          refine lv_iload_n hx hb dX10_key_28 rfl (lv_at hl 1 rfl) ?_
          refine lv_iload_n hx hb dX10_key_29 rfl (lv_at hl 2 rfl) ?_
          refine j_mui (va_runV (As := [.int (iI (t9)), .int (iI (s9))]) (rest := []) ⟨hx, hb, hml, hown, hts⟩ (c_X1_add l D cI cZ z h19 h26 h27 t9 s9 km ku kl kt ks (by first | assumption | omega) s.heap.size) (cwV 2 hts gX10_key_X1_add rfl rfl rfl hvX1_add ⟨Nat.le_of_ble_eq_true rfl, Nat.le_of_ble_eq_true rfl⟩) (j_preV hP hD hK hS hZ hA [1, 2, 3] rfl rfl 1 rfl rfl) rfl rfl hl.1 rfl (lv_room (Nat.le_of_ble_eq_true rfl)) dX10_key_30 ⟨Nat.zero_le _, Nat.zero_le _⟩) hP hD hS hA [1, 2, 3] rfl (fun _ => rfl) (fun u_9 H locs hw_30 hP hD hS => ?_)
          obtain ⟨kt2_1, ks2_2, km2_3⟩ := u_9
          dsimp only at hw_30
          have hP : va_P D vwCl [(h0, .inr (10, [.ref h20, .ref h21, .ref h10, .ref h12, .ref h14, .ref h15, .ref h16, .ref h8, .ref h1, .ref h6, .ref h2, .ref h3, .ref h17, .ref h18, .int (iI (tk9)), .ref h19, .int (iI (lt)), .long (lI (tra))])), (h19, .inr (1, [.ref h26, .ref h27, .int (iI (km2_3)), .long (lI (ku)), .long (lI (kl))])), (h26, .inl (cI, 20, .inl (aI kt2_1))), (h27, .inl (cI, 20, .inl (aI ks2_2)))] H := hP
          have hD : va_D A [(h0, .inr (10, [.ref h20, .ref h21, .ref h10, .ref h12, .ref h14, .ref h15, .ref h16, .ref h8, .ref h1, .ref h6, .ref h2, .ref h3, .ref h17, .ref h18, .int (iI (tk9)), .ref h19, .int (iI (lt)), .long (lI (tra))])), (h19, .inr (1, [.ref h26, .ref h27, .int (iI (km2_3)), .long (lI (ku)), .long (lI (kl))])), (h26, .inl (cI, 20, .inl (aI kt2_1))), (h27, .inl (cI, 20, .inl (aI ks2_2)))] := hD
          obtain ⟨ha1, ha2, ha3⟩ := hw_30
          refine j_ifeq_d (tgt := 46) hx hb dX10_key_33 (by decide) (fun c_33 => ?_) (fun c_33 => ?_)
          · refine lv_bipush (v := iI (-3)) hx hb dX10_key_46 (by decide) ?_
            rw [hQ]; exact jm_iret (kt2_1, ks2_2, km2_3, -3) hx hb hr hlocks hS hP rfl (by (try dsimp only); first | (rw [if_pos (by omega)]; exact ⟨rfl, rfl, rfl, rfl⟩) | (rw [if_neg (by omega)]; first | (rw [if_pos (by omega)]; exact ⟨rfl, by rw [ha1, if_neg (by omega)], by rw [ha2, if_neg (by omega)], by rw [ha3, if_neg (by omega)]⟩) | (rw [if_neg (by omega)]; exact ⟨by omega, by rw [ha1, if_pos (by omega)], by rw [ha2, if_pos (by omega)], by rw [ha3, if_pos (by omega)]⟩))) dX10_key_48
          · refine lv_aload_n hx hb dX10_key_36 rfl (lv_at hl 0 rfl) ?_
            refine va_get (D := D) (ci := 10) (v := .ref h19) (C := RX10) (T := TX10) (N := 18) hx hb hts UX10 hown hK hP 0 rfl rfl 15 (by decide) L99 (fun _ h9 => h9) rfl dX10_key_37 ?_
            refine va_get (D := D) (ci := 1) (v := .int (iI (km2_3))) (C := RX1) (T := TX1) (N := 5) hx hb hts UX1 hown hK hP 1 rfl rfl 2 (by decide) L323 (fun _ h9 => h9) rfl dX10_key_40 ?_
            refine lv_goto (tgt := 48) hx hb dX10_key_43 (by decide) ?_
            rw [hQ]; exact jm_iret (kt2_1, ks2_2, km2_3, km2_3) hx hb hr hlocks hS hP rfl (by (try dsimp only); first | (rw [if_pos (by omega)]; exact ⟨rfl, rfl, rfl, rfl⟩) | (rw [if_neg (by omega)]; first | (rw [if_pos (by omega)]; exact ⟨rfl, by rw [ha1, if_neg (by omega)], by rw [ha2, if_neg (by omega)], by rw [ha3, if_neg (by omega)]⟩) | (rw [if_neg (by omega)]; exact ⟨by omega, by rw [ha1, if_pos (by omega)], by rw [ha2, if_pos (by omega)], by rw [ha3, if_pos (by omega)]⟩))) dX10_key_48
        · refine lv_iconst (v := iI (-1)) hx hb dX10_key_22 rfl ?_
          rw [hQ]; exact jm_iret (kt, ks, km, -1) hx hb hr hlocks hS hP rfl (by (try dsimp only); first | (rw [if_pos (by omega)]; exact ⟨rfl, rfl, rfl, rfl⟩) | (rw [if_neg (by omega)]; first | (rw [if_pos (by omega)]; exact ⟨rfl, by rw [ha1, if_neg (by omega)], by rw [ha2, if_neg (by omega)], by rw [ha3, if_neg (by omega)]⟩) | (rw [if_neg (by omega)]; exact ⟨by omega, by rw [ha1, if_pos (by omega)], by rw [ha2, if_pos (by omega)], by rw [ha3, if_pos (by omega)]⟩))) dX10_key_23
