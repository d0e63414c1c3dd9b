theorem hsX2_run : yX2_run.cls ≠ "java/lang/invoke/MethodHandle" ∧ yX2_run.cls ≠ "java/lang/invoke/VarHandle" ∧ (parseMethodDescriptor yX2_run.desc).map (fun d => d.parameters.length) = some 2 := by decide +kernel
theorem hvX2_run : yX2_run.cls = RX2 ∧ yX2_run.cls ≠ "java/lang/invoke/MethodHandle" ∧ yX2_run.cls ≠ "java/lang/invoke/VarHandle" ∧ (parseMethodDescriptor yX2_run.desc).map (fun d => d.parameters.length) = some 2 := ⟨rfl, hsX2_run⟩
abbrev rmX6_addRound : Room := { frames := 3, cells := 0, slots := 0, locals := 70 }
set_option maxHeartbeats 4000000 in
set_option maxRecDepth 100000 in
theorem c_X6_addRound (l : Launch) (D : va_G) (cI cZ : ClassId) (z : jZT) (h0 h8 h1 h2 h3 h4 h6 h7 h9 : Nat) (q st fa tr ro lo le mo ce bc tc ln wt wb : Int) (mc ir a : Int → Int) (f : Int → Int) (N : Int) (p9 : Nat) (al : Int → Bool) (hf : NxtI a wt wb f N) (hM : MkI 256 mc bc tc) (hp : LapI f q N p9) (hro : 0 ≤ ro ∧ ro < 100000) (hlo : 0 ≤ lo ∧ lo < 100000) (hir : InRI ir ro al) : jMu (S := (Int → Int) × Int × Int × Int × Int × Int × Int × (Int → Int) × Int) l yX6_addRound wsX6_addRound rmX6_addRound [.ref h0, .ref h8, .int (iI (q))] D cI cZ z [(h0, .inr (6, [.ref h1, .ref h2, .ref h3, .ref h4, .int (iI (st)), .int (iI (fa)), .int (iI (tr)), .int (iI (ro)), .int (iI (lo))])), (h3, .inr (2, [.ref h6, .int (iI (le)), .int (iI (mo)), .int (iI (ce))])), (h6, .inr (3, [.ref h7, .int (iI (bc)), .int (iI (tc))])), (h7, .inl (cI, 256, .inl (aI mc))), (h4, .inl (cI, 256, .inl (aI ir))), (h8, .inr (9, [.ref h9, .int (iI (ln)), .int (iI (wt)), .int (iI (wb))])), (h9, .inl (cI, 2048, .inl (aI a)))] (fun u => some (.int (iI (u.2.2.2.2.2.2.2.2)))) (fun u => MkI 256 u.1 u.2.1 1 ∧ (u.2.2.2.2.2.2.2.2 = if mvN f q p9 = 0 then 3 else 4) ∧ u.2.2.2.2.2.1 = ro + 1 ∧ u.2.2.2.2.2.2.1 = (if lo < (p9 : Int) then (p9 : Int) else lo) ∧ InRI u.2.2.2.2.2.2.2.1 (ro + 1) (fun c => al c && snN f q p9 c)) (fun u => [(h0, .inr (6, [.ref h1, .ref h2, .ref h3, .ref h4, .int (iI (st)), .int (iI (fa)), .int (iI (tr)), .int (iI (u.2.2.2.2.2.1)), .int (iI (u.2.2.2.2.2.2.1))])), (h3, .inr (2, [.ref h6, .int (iI (u.2.2.1)), .int (iI (u.2.2.2.1)), .int (iI (u.2.2.2.2.1))])), (h6, .inr (3, [.ref h7, .int (iI (u.2.1)), .int (iI (1))])), (h7, .inl (cI, 256, .inl (aI u.1))), (h4, .inl (cI, 256, .inl (aI u.2.2.2.2.2.2.2.1))), (h8, .inr (9, [.ref h9, .int (iI (ln)), .int (iI (wt)), .int (iI (wb))])), (h9, .inl (cI, 2048, .inl (aI a)))]) := by
  refine jMu_of (cc := cX6_addRound) (n := 6) (ret := (some .int)) (by decide) rfl (Nat.le_of_ble_eq_true rfl) ?_
  intro p e s m below meth c A ls args Q hQ F hA hZ hP hK hD hS hl
  obtain ⟨hx, hb, hr, hml, hown, hts, hlocks⟩ := F
  have hown : s.vm.findClass RX6 = some m.cls := hown
  have hl : lv_has ls 6 [(0, .ref h0), (1, .ref h8), (2, .int (iI (q)))] := hl
  have L22 := hts (.fieldLink RX6 22 "TinMouse$Starts" "lap" "LTinMouse$Lap;") (by decide +kernel)
  have L36 := hts (.fieldLink RX6 36 "TinMouse$Starts" "rounds" "I") (by decide +kernel)
  have L39 := hts (.fieldLink RX6 39 "TinMouse$Starts" "longest" "I") (by decide +kernel)
  have L94 := hts (.fieldLink RX6 94 "TinMouse$Lap" "length" "I") (by decide +kernel)
  have LM97_1 := hts (.methodLink RX6 97 Lib.Math.max.name) (by decide +kernel)
  have LM97_2 := hts (.static Lib.Math.max.name) (by decide +kernel)
  have LM97_3 := hts (.initialized "java/lang/Math") (by decide +kernel)
  have LM97_4 := hts (.code Lib.Math.max.name Lib.Math.max.code 2 (some .int)) (by decide +kernel)
  have L106 := hts (.fieldLink RX6 106 "TinMouse$Lap" "moves" "I") (by decide +kernel)
  have IRX10 := hts (.initialized RX10) (by decide +kernel)
  have STyX10_cellOf := hts (.static yX10_cellOf) (by decide +kernel)
  have L9 := hts (.fieldLink RX6 9 "TinMouse$Starts" "inRounds" "[I") (by decide +kernel)
  have STyX10_at := hts (.static yX10_at) (by decide +kernel)
  have STyX10_set := hts (.static yX10_set) (by decide +kernel)
  have UX2 : ∀ w ∈ wsX20, w ∈ wsX6_addRound := fun w h => List.mem_cons_of_mem _ (List.mem_append_left _ (List.mem_append_left _ (List.mem_append_right _ h)))
  have UX6 : ∀ w ∈ wsX60, w ∈ wsX6_addRound := fun w h => List.mem_cons_of_mem _ (List.mem_append_left _ (List.mem_append_left _ (List.mem_append_left _ (List.mem_append_right _ h))))
  have hN := hf.2.1
  have hmr := mvN_rng f q p9
  refine lv_aload_n hx hb dX6_addRound_0 rfl (lv_at hl 0 rfl) ?_
  refine va_get (D := D) (ci := 6) (v := .ref h3) (C := RX6) (T := TX6) (N := 9) hx hb hts UX6 hown hK hP 0 rfl rfl 2 (by decide) L22 (fun _ h9 => h9) rfl dX6_addRound_1 ?_
  refine lv_aload_n hx hb dX6_addRound_4 rfl (lv_at hl 1 rfl) ?_
  refine lv_iload_n hx hb dX6_addRound_5 rfl (lv_at hl 2 rfl) ?_
  refine j_muv (va_runV (As := [.ref h8, .int (iI (q))]) (rest := []) ⟨hx, hb, hml, hown, hts⟩ (c_X2_run l D cI cZ z h3 h8 h6 h7 h9 q le mo ce bc tc ln wt wb mc a f N p9 (by first | assumption | omega) (by first | assumption | omega) (by first | assumption | omega) s.heap.size) (cwV 2 hts gX6_addRound_X2_run rfl rfl rfl hvX2_run ⟨Nat.le_of_ble_eq_true rfl, Nat.le_of_ble_eq_true rfl⟩) (j_preV hP hD hK hS hZ hA [1, 2, 3, 5, 6] rfl rfl 1 rfl rfl) rfl rfl hl.1 rfl (lv_room (Nat.le_of_ble_eq_true rfl)) dX6_addRound_6 ⟨Nat.zero_le _, Nat.zero_le _⟩) hP hD hS hA [1, 2, 3, 5, 6] rfl (fun _ => rfl) (fun u_9 H locs hw_6 hP hD hS => ?_)
  obtain ⟨mk2_1, ba2_2, le2_3, mo2_4, ce2_5⟩ := u_9
  dsimp only at hw_6
  have hP : va_P D vwCl [(h0, .inr (6, [.ref h1, .ref h2, .ref h3, .ref h4, .int (iI (st)), .int (iI (fa)), .int (iI (tr)), .int (iI (ro)), .int (iI (lo))])), (h3, .inr (2, [.ref h6, .int (iI (le2_3)), .int (iI (mo2_4)), .int (iI (ce2_5))])), (h6, .inr (3, [.ref h7, .int (iI (ba2_2)), .int (iI (1))])), (h7, .inl (cI, 256, .inl (aI mk2_1))), (h4, .inl (cI, 256, .inl (aI ir))), (h8, .inr (9, [.ref h9, .int (iI (ln)), .int (iI (wt)), .int (iI (wb))])), (h9, .inl (cI, 2048, .inl (aI a)))] H := hP
  have hD : va_D A [(h0, .inr (6, [.ref h1, .ref h2, .ref h3, .ref h4, .int (iI (st)), .int (iI (fa)), .int (iI (tr)), .int (iI (ro)), .int (iI (lo))])), (h3, .inr (2, [.ref h6, .int (iI (le2_3)), .int (iI (mo2_4)), .int (iI (ce2_5))])), (h6, .inr (3, [.ref h7, .int (iI (ba2_2)), .int (iI (1))])), (h7, .inl (cI, 256, .inl (aI mk2_1))), (h4, .inl (cI, 256, .inl (aI ir))), (h8, .inr (9, [.ref h9, .int (iI (ln)), .int (iI (wt)), .int (iI (wb))])), (h9, .inl (cI, 2048, .inl (aI a)))] := hD
  obtain ⟨hn1, hn2, hn3, hn4⟩ := hw_6
  have hpr0 := hp.2.1
  refine lv_aload_n hx hb dX6_addRound_9 rfl (lv_at hl 0 rfl) ?_
  refine lv_dup hx hb dX6_addRound_10 rfl ?_
  refine va_get (D := D) (ci := 6) (v := .int (iI (ro))) (C := RX6) (T := TX6) (N := 9) hx hb hts UX6 hown hK hP 0 rfl rfl 7 (by decide) L36 (fun _ h9 => h9) rfl dX6_addRound_11 ?_
  refine lv_iconst (v := iI (1)) hx hb dX6_addRound_14 rfl ?_
  refine j_iadd hx hb dX6_addRound_15 ?_
  refine va_put (D := D) (ci := 6) (v := .int (iI (ro + 1))) (ty := .int) (C := RX6) (T := TX6) (N := 9) hx hb hts UX6 tyX6 tyX6_ok nmX6 hown hK hP hD hS 0 rfl rfl 7 (by decide) L36 (fun _ h9 => h9) rfl rfl rfl rfl (Nat.le_of_ble_eq_true rfl) dX6_addRound_16 (fun H locs hP hD hS => ?_)
  have hP : va_P D vwCl [(h0, .inr (6, [.ref h1, .ref h2, .ref h3, .ref h4, .int (iI (st)), .int (iI (fa)), .int (iI (tr)), .int (iI (ro + 1)), .int (iI (lo))])), (h3, .inr (2, [.ref h6, .int (iI (le2_3)), .int (iI (mo2_4)), .int (iI (ce2_5))])), (h6, .inr (3, [.ref h7, .int (iI (ba2_2)), .int (iI (1))])), (h7, .inl (cI, 256, .inl (aI mk2_1))), (h4, .inl (cI, 256, .inl (aI ir))), (h8, .inr (9, [.ref h9, .int (iI (ln)), .int (iI (wt)), .int (iI (wb))])), (h9, .inl (cI, 2048, .inl (aI a)))] H := hP
  have hD : va_D A [(h0, .inr (6, [.ref h1, .ref h2, .ref h3, .ref h4, .int (iI (st)), .int (iI (fa)), .int (iI (tr)), .int (iI (ro + 1)), .int (iI (lo))])), (h3, .inr (2, [.ref h6, .int (iI (le2_3)), .int (iI (mo2_4)), .int (iI (ce2_5))])), (h6, .inr (3, [.ref h7, .int (iI (ba2_2)), .int (iI (1))])), (h7, .inl (cI, 256, .inl (aI mk2_1))), (h4, .inl (cI, 256, .inl (aI ir))), (h8, .inr (9, [.ref h9, .int (iI (ln)), .int (iI (wt)), .int (iI (wb))])), (h9, .inl (cI, 2048, .inl (aI a)))] := hD
  refine lv_aload_n hx hb dX6_addRound_19 rfl (lv_at hl 0 rfl) ?_
  refine lv_aload_n hx hb dX6_addRound_20 rfl (lv_at hl 0 rfl) ?_
  refine va_get (D := D) (ci := 6) (v := .int (iI (lo))) (C := RX6) (T := TX6) (N := 9) hx hb hts UX6 hown hK hP 0 rfl rfl 8 (by decide) L39 (fun _ h9 => h9) rfl dX6_addRound_21 ?_
  refine lv_aload_n hx hb dX6_addRound_24 rfl (lv_at hl 0 rfl) ?_
  refine va_get (D := D) (ci := 6) (v := .ref h3) (C := RX6) (T := TX6) (N := 9) hx hb hts UX6 hown hK hP 0 rfl rfl 2 (by decide) L22 (fun _ h9 => h9) rfl dX6_addRound_25 ?_
  refine va_get (D := D) (ci := 2) (v := .int (iI (le2_3))) (C := RX2) (T := TX2) (N := 4) hx hb hts UX2 hown hK hP 1 rfl rfl 1 (by decide) L94 (fun _ h9 => h9) rfl dX6_addRound_28 ?_
  refine j_mmax hx hb (hml.trans hl.1.symm) hown LM97_1 LM97_2 LM97_3 LM97_4 (Nat.le_of_ble_eq_true rfl) (Nat.le_of_ble_eq_true rfl) (Nat.zero_le _) (Nat.zero_le _) (by omega) dX6_addRound_31 ?_
  refine va_put (D := D) (ci := 6) (v := .int (iI (if lo < le2_3 then le2_3 else lo))) (ty := .int) (C := RX6) (T := TX6) (N := 9) hx hb hts UX6 tyX6 tyX6_ok nmX6 hown hK hP hD hS 0 rfl rfl 8 (by decide) L39 (fun _ h9 => h9) rfl rfl rfl rfl (Nat.le_of_ble_eq_true rfl) dX6_addRound_34 (fun H locs hP hD hS => ?_)
  have hP : va_P D vwCl [(h0, .inr (6, [.ref h1, .ref h2, .ref h3, .ref h4, .int (iI (st)), .int (iI (fa)), .int (iI (tr)), .int (iI (ro + 1)), .int (iI (if lo < le2_3 then le2_3 else lo))])), (h3, .inr (2, [.ref h6, .int (iI (le2_3)), .int (iI (mo2_4)), .int (iI (ce2_5))])), (h6, .inr (3, [.ref h7, .int (iI (ba2_2)), .int (iI (1))])), (h7, .inl (cI, 256, .inl (aI mk2_1))), (h4, .inl (cI, 256, .inl (aI ir))), (h8, .inr (9, [.ref h9, .int (iI (ln)), .int (iI (wt)), .int (iI (wb))])), (h9, .inl (cI, 2048, .inl (aI a)))] H := hP
  have hD : va_D A [(h0, .inr (6, [.ref h1, .ref h2, .ref h3, .ref h4, .int (iI (st)), .int (iI (fa)), .int (iI (tr)), .int (iI (ro + 1)), .int (iI (if lo < le2_3 then le2_3 else lo))])), (h3, .inr (2, [.ref h6, .int (iI (le2_3)), .int (iI (mo2_4)), .int (iI (ce2_5))])), (h6, .inr (3, [.ref h7, .int (iI (ba2_2)), .int (iI (1))])), (h7, .inl (cI, 256, .inl (aI mk2_1))), (h4, .inl (cI, 256, .inl (aI ir))), (h8, .inr (9, [.ref h9, .int (iI (ln)), .int (iI (wt)), .int (iI (wb))])), (h9, .inl (cI, 2048, .inl (aI a)))] := hD
  refine lv_iload_n hx hb dX6_addRound_37 rfl (lv_at hl 2 rfl) ?_
  refine lv_istore_n (lv' := [(3, .int (iI (q))), (0, .ref h0), (1, .ref h8), (2, .int (iI (q)))]) hx hb dX6_addRound_38 rfl hl (by decide) rfl (fun ls hl => ?_)
  refine lv_iconst (v := iI (0)) hx hb dX6_addRound_39 rfl ?_
  refine lv_istore (lv' := [(4, .int (iI (0))), (3, .int (iI (q))), (0, .ref h0), (1, .ref h8), (2, .int (iI (q)))]) hx hb dX6_addRound_40 hl (by decide) rfl (fun ls hl => ?_)
  have loop_42 : ∀ (fuel_42 : Nat) (st9 : Int) (i : Int) (ir9 : Int → Int) (n : Nat), (i = (n : Int) ∧ n ≤ p9 ∧ st9 = itn f q n ∧ ArI ir9 ir ro f q n) → (p9 - n) < fuel_42 → ∀ (H : Heap) (locs : List Loc), va_P D vwCl [(h0, .inr (6, [.ref h1, .ref h2, .ref h3, .ref h4, .int (iI (st)), .int (iI (fa)), .int (iI (tr)), .int (iI (ro + 1)), .int (iI (if lo < le2_3 then le2_3 else lo))])), (h3, .inr (2, [.ref h6, .int (iI (le2_3)), .int (iI (mo2_4)), .int (iI (ce2_5))])), (h6, .inr (3, [.ref h7, .int (iI (ba2_2)), .int (iI (1))])), (h7, .inl (cI, 256, .inl (aI mk2_1))), (h4, .inl (cI, 256, .inl (aI ir9))), (h8, .inr (9, [.ref h9, .int (iI (ln)), .int (iI (wt)), .int (iI (wb))])), (h9, .inl (cI, 2048, .inl (aI a)))] H → va_D A [(h0, .inr (6, [.ref h1, .ref h2, .ref h3, .ref h4, .int (iI (st)), .int (iI (fa)), .int (iI (tr)), .int (iI (ro + 1)), .int (iI (if lo < le2_3 then le2_3 else lo))])), (h3, .inr (2, [.ref h6, .int (iI (le2_3)), .int (iI (mo2_4)), .int (iI (ce2_5))])), (h6, .inr (3, [.ref h7, .int (iI (ba2_2)), .int (iI (1))])), (h7, .inl (cI, 256, .inl (aI mk2_1))), (h4, .inl (cI, 256, .inl (aI ir9))), (h8, .inr (9, [.ref h9, .int (iI (ln)), .int (iI (wt)), .int (iI (wb))])), (h9, .inl (cI, 2048, .inl (aI a)))] → va_S A s.heap H locs → ∀ ls : Array Slot, lv_has ls 6 [(0, .ref h0), (1, .ref h8), (3, .int (iI (st9))), (4, .int (iI (i)))] → W p l e rmX6_addRound s m args below meth c H locs 0 0 Q (F0 m 42 ls []) := by
    intro fuel_42
    induction fuel_42 with
    | zero => intro st9 i ir9 n hI9 hm9; exact absurd hm9 (Nat.not_lt_zero _)
    | succ fuel_42 ih_42 =>
      intro st9 i ir9 n hI_42 hm_42 H locs hP hD hS ls hl
      obtain ⟨hi1, hi2, hi3, hi4⟩ := hI_42
      have hpr := hp.2.1
      have hr1 := hp.2.2.2.2 n (by omega)
      refine lv_iload hx hb dX6_addRound_42 (lv_at hl 3 rfl) ?_
      refine lv_aload_n hx hb dX6_addRound_44 rfl (lv_at hl 0 rfl) ?_
      refine va_get (D := D) (ci := 6) (v := .ref h3) (C := RX6) (T := TX6) (N := 9) hx hb hts UX6 hown hK hP 0 rfl rfl 2 (by decide) L22 (fun _ h9 => h9) rfl dX6_addRound_45 ?_
      refine va_get (D := D) (ci := 2) (v := .int (iI (le2_3))) (C := RX2) (T := TX2) (N := 4) hx hb hts UX2 hown hK hP 1 rfl rfl 1 (by decide) L94 (fun _ h9 => h9) rfl dX6_addRound_48 ?_
      refine j_icmp_ge (tgt := 103) hx hb (by omega) dX6_addRound_51 (by decide) (fun c_51 => ?_) (fun c_51 => ?_)
      · refine lv_aload_n hx hb dX6_addRound_103 rfl (lv_at hl 0 rfl) ?_
        refine va_get (D := D) (ci := 6) (v := .ref h3) (C := RX6) (T := TX6) (N := 9) hx hb hts UX6 hown hK hP 0 rfl rfl 2 (by decide) L22 (fun _ h9 => h9) rfl dX6_addRound_104 ?_
        refine va_get (D := D) (ci := 2) (v := .int (iI (mo2_4))) (C := RX2) (T := TX2) (N := 4) hx hb hts UX2 hown hK hP 1 rfl rfl 2 (by decide) L106 (fun _ h9 => h9) rfl dX6_addRound_107 ?_
        refine j_if_ne (tgt := 117) hx hb (by omega) dX6_addRound_110 (by decide) (fun c_110 => ?_) (fun c_110 => ?_)
        · refine lv_iconst (v := iI (4)) hx hb dX6_addRound_117 rfl ?_
          rw [hQ]; exact jm_iret (mk2_1, ba2_2, le2_3, mo2_4, ce2_5, ro + 1, if lo < le2_3 then le2_3 else lo, ir9, 4) hx hb hr hlocks hS hP rfl (by (try dsimp only); have hnp : n = p9 := (by omega); rw [hnp] at hi4; exact ⟨hn1, by first | (rw [if_pos (by omega)]; done) | (rw [if_neg (by omega)]; done), rfl, by rw [hn2], ar_end hi4 hir⟩) dX6_addRound_118
        · refine lv_iconst (v := iI (3)) hx hb dX6_addRound_113 rfl ?_
          refine lv_goto (tgt := 118) hx hb dX6_addRound_114 (by decide) ?_
          rw [hQ]; exact jm_iret (mk2_1, ba2_2, le2_3, mo2_4, ce2_5, ro + 1, if lo < le2_3 then le2_3 else lo, ir9, 3) hx hb hr hlocks hS hP rfl (by (try dsimp only); have hnp : n = p9 := (by omega); rw [hnp] at hi4; exact ⟨hn1, by first | (rw [if_pos (by omega)]; done) | (rw [if_neg (by omega)]; done), rfl, by rw [hn2], ar_end hi4 hir⟩) dX6_addRound_118
      · refine lv_iload_n hx hb dX6_addRound_54 rfl (lv_at hl 2 rfl) ?_
        refine j_rd (va_runSN (As := [.int (iI (st9))]) (rest := []) ⟨hx, hb, hml, hown, hts⟩ (c_X10_cellOf l D cI cZ z st9 (by first | assumption | omega) H.size) ⟨va_cnB 1 hts gX6_addRound_X10_cellOf_n103 rfl rfl rfl (hZ.2.2.2.2.2 _ (List.mem_of_getElem? (i := 21) rfl)) IRX10 hsX10_cellOf ⟨Nat.le_of_ble_eq_true rfl, Nat.le_of_ble_eq_true rfl⟩, STyX10_cellOf, trivial⟩ (j_preS hP hD hK hS hZ hA [] rfl rfl) rfl rfl hl.1 rfl (lv_room (Nat.le_of_ble_eq_true rfl)) dX6_addRound_55 ⟨Nat.zero_le _, Nat.zero_le _⟩) ?_
        refine j_top (fun ck eck => ?_)
        rw [if_pos (by omega)] at eck
        refine lv_istore (lv' := [(5, .int (iI (ck))), (0, .ref h0), (1, .ref h8), (3, .int (iI (st9))), (4, .int (iI (i)))]) hx hb dX6_addRound_58 hl (by decide) rfl (fun ls hl => ?_)
        refine lv_aload_n hx hb dX6_addRound_60 rfl (lv_at hl 1 rfl) ?_
        refine va_get (D := D) (ci := 6) (v := .ref h4) (C := RX6) (T := TX6) (N := 9) hx hb hts UX6 hown hK hP 0 rfl rfl 3 (by decide) L9 (fun _ h9 => h9) rfl dX6_addRound_61 ?_
        refine lv_iload hx hb dX6_addRound_64 (lv_at hl 0 rfl) ?_
        refine j_rd (va_runSN (As := [.ref h4, .int (iI (ck))]) (rest := []) ⟨hx, hb, hml, hown, hts⟩ (c_X10_at l D cI cZ z h4 ck ir9 256 (by first | assumption | omega) (by first | assumption | omega) H.size) ⟨va_cnB 2 hts gX6_addRound_X10_at_n85 rfl rfl rfl (hZ.2.2.2.2.2 _ (List.mem_of_getElem? (i := 22) rfl)) IRX10 hsX10_at ⟨Nat.le_of_ble_eq_true rfl, Nat.le_of_ble_eq_true rfl⟩, STyX10_at, trivial⟩ (j_preS hP hD hK hS hZ hA [4] rfl rfl) rfl rfl hl.1 rfl (lv_room (Nat.le_of_ble_eq_true rfl)) dX6_addRound_66 ⟨Nat.zero_le _, Nat.zero_le _⟩) ?_
        refine j_top (fun cv ecv => ?_)
        rw [atI_in (by omega)] at ecv
        have hcv := ar_rng hi4 hir (k := ck) (by omega)
        refine lv_aload_n hx hb dX6_addRound_69 rfl (lv_at hl 1 rfl) ?_
        refine va_get (D := D) (ci := 6) (v := .int (iI (ro + 1))) (C := RX6) (T := TX6) (N := 9) hx hb hts UX6 hown hK hP 0 rfl rfl 7 (by decide) L36 (fun _ h9 => h9) rfl dX6_addRound_70 ?_
        refine lv_iconst (v := iI (1)) hx hb dX6_addRound_73 rfl ?_
        refine j_isub hx hb dX6_addRound_74 ?_
        refine j_icmp_ne (tgt := 91) hx hb (by omega) dX6_addRound_75 (by decide) (fun c_75 => ?_) (fun c_75 => ?_)
        · refine lv_aload_n hx hb dX6_addRound_91 rfl (lv_at hl 2 rfl) ?_
          refine lv_iload_n hx hb dX6_addRound_92 rfl (lv_at hl 3 rfl) ?_
          refine j_rd (va_runV (As := [.int (iI (st9))]) (rest := []) ⟨hx, hb, hml, hown, hts⟩ (c_X9_after l D cI cZ z h8 h9 st9 ln wt wb a f N (by first | assumption | omega) (by omega) H.size) (cwV 1 hts gX6_addRound_X9_after rfl rfl rfl hvX9_after ⟨Nat.le_of_ble_eq_true rfl, Nat.le_of_ble_eq_true rfl⟩) (j_preV hP hD hK hS hZ hA [5, 6] rfl rfl 5 rfl rfl) rfl rfl hl.1 rfl (lv_room (Nat.le_of_ble_eq_true rfl)) dX6_addRound_93 ⟨Nat.zero_le _, Nat.zero_le _⟩) ?_
          refine lv_istore_n (lv' := [(3, .int (iI (f st9))), (5, .int (iI (ck))), (0, .ref h0), (1, .ref h8), (4, .int (iI (i)))]) hx hb dX6_addRound_96 rfl hl (by decide) rfl (fun ls hl => ?_)
          refine lv_iinc (v := iI (i + 1)) (lv' := [(4, .int (iI (i + 1))), (3, .int (iI (f st9))), (5, .int (iI (ck))), (0, .ref h0), (1, .ref h8)]) hx hb dX6_addRound_97 hl (k := 4) rfl (iI_add _ _) (by decide) rfl (fun ls hl => ?_)
          refine lv_goto (tgt := 42) hx hb dX6_addRound_100 (by decide) ?_
          exact ih_42 ((f st9)) ((i + 1)) ir9 (n + 1) (by first | (rw [hw_88, setI_in (by omega)]; exact ⟨by omega, by omega, by rw [itn, ← hi3], ar_set hi4 (by omega) (by omega) (by omega)⟩) | exact ⟨by omega, by omega, by rw [itn, ← hi3], ar_no hi4 (k := ck) (by omega) (by omega) (by omega)⟩) (by omega) H locs hP hD hS ls (lv_sub hl [3, 4, 1, 0] rfl)
        · refine lv_aload_n hx hb dX6_addRound_78 rfl (lv_at hl 1 rfl) ?_
          refine va_get (D := D) (ci := 6) (v := .ref h4) (C := RX6) (T := TX6) (N := 9) hx hb hts UX6 hown hK hP 0 rfl rfl 3 (by decide) L9 (fun _ h9 => h9) rfl dX6_addRound_79 ?_
          refine lv_iload hx hb dX6_addRound_82 (lv_at hl 0 rfl) ?_
          refine lv_aload_n hx hb dX6_addRound_84 rfl (lv_at hl 1 rfl) ?_
          refine va_get (D := D) (ci := 6) (v := .int (iI (ro + 1))) (C := RX6) (T := TX6) (N := 9) hx hb hts UX6 hown hK hP 0 rfl rfl 7 (by decide) L36 (fun _ h9 => h9) rfl dX6_addRound_85 ?_
          refine j_muv (va_runSN (As := [.ref h4, .int (iI (ck)), .int (iI (ro + 1))]) (rest := []) ⟨hx, hb, hml, hown, hts⟩ (c_X10_set l D cI cZ z h4 ck (ro + 1) ir9 256 (by first | assumption | omega) (by first | assumption | omega) H.size) ⟨va_cnB 3 hts gX6_addRound_X10_set_n73 rfl rfl rfl (hZ.2.2.2.2.2 _ (List.mem_of_getElem? (i := 20) rfl)) IRX10 hsX10_set ⟨Nat.le_of_ble_eq_true rfl, Nat.le_of_ble_eq_true rfl⟩, STyX10_set, trivial⟩ (j_preS hP hD hK hS hZ hA [4] rfl rfl) rfl rfl hl.1 rfl (lv_room (Nat.le_of_ble_eq_true rfl)) dX6_addRound_88 ⟨Nat.zero_le _, Nat.zero_le _⟩) hP hD hS hA [4] rfl (fun _ => rfl) (fun g2_6 H locs hw_88 hP hD hS => ?_)
          have hP : va_P D vwCl [(h0, .inr (6, [.ref h1, .ref h2, .ref h3, .ref h4, .int (iI (st)), .int (iI (fa)), .int (iI (tr)), .int (iI (ro + 1)), .int (iI (if lo < le2_3 then le2_3 else lo))])), (h3, .inr (2, [.ref h6, .int (iI (le2_3)), .int (iI (mo2_4)), .int (iI (ce2_5))])), (h6, .inr (3, [.ref h7, .int (iI (ba2_2)), .int (iI (1))])), (h7, .inl (cI, 256, .inl (aI mk2_1))), (h4, .inl (cI, 256, .inl (aI g2_6))), (h8, .inr (9, [.ref h9, .int (iI (ln)), .int (iI (wt)), .int (iI (wb))])), (h9, .inl (cI, 2048, .inl (aI a)))] H := hP
          have hD : va_D A [(h0, .inr (6, [.ref h1, .ref h2, .ref h3, .ref h4, .int (iI (st)), .int (iI (fa)), .int (iI (tr)), .int (iI (ro + 1)), .int (iI (if lo < le2_3 then le2_3 else lo))])), (h3, .inr (2, [.ref h6, .int (iI (le2_3)), .int (iI (mo2_4)), .int (iI (ce2_5))])), (h6, .inr (3, [.ref h7, .int (iI (ba2_2)), .int (iI (1))])), (h7, .inl (cI, 256, .inl (aI mk2_1))), (h4, .inl (cI, 256, .inl (aI g2_6))), (h8, .inr (9, [.ref h9, .int (iI (ln)), .int (iI (wt)), .int (iI (wb))])), (h9, .inl (cI, 2048, .inl (aI a)))] := hD
          refine lv_aload_n hx hb dX6_addRound_91 rfl (lv_at hl 2 rfl) ?_
          refine lv_iload_n hx hb dX6_addRound_92 rfl (lv_at hl 3 rfl) ?_
          refine j_rd (va_runV (As := [.int (iI (st9))]) (rest := []) ⟨hx, hb, hml, hown, hts⟩ (c_X9_after l D cI cZ z h8 h9 st9 ln wt wb a f N (by first | assumption | omega) (by omega) H.size) (cwV 1 hts gX6_addRound_X9_after rfl rfl rfl hvX9_after ⟨Nat.le_of_ble_eq_true rfl, Nat.le_of_ble_eq_true rfl⟩) (j_preV hP hD hK hS hZ hA [5, 6] rfl rfl 5 rfl rfl) rfl rfl hl.1 rfl (lv_room (Nat.le_of_ble_eq_true rfl)) dX6_addRound_93 ⟨Nat.zero_le _, Nat.zero_le _⟩) ?_
          refine lv_istore_n (lv' := [(3, .int (iI (f st9))), (5, .int (iI (ck))), (0, .ref h0), (1, .ref h8), (4, .int (iI (i)))]) hx hb dX6_addRound_96 rfl hl (by decide) rfl (fun ls hl => ?_)
          refine lv_iinc (v := iI (i + 1)) (lv' := [(4, .int (iI (i + 1))), (3, .int (iI (f st9))), (5, .int (iI (ck))), (0, .ref h0), (1, .ref h8)]) hx hb dX6_addRound_97 hl (k := 4) rfl (iI_add _ _) (by decide) rfl (fun ls hl => ?_)
          refine lv_goto (tgt := 42) hx hb dX6_addRound_100 (by decide) ?_
          exact ih_42 ((f st9)) ((i + 1)) g2_6 (n + 1) (by first | (rw [hw_88, setI_in (by omega)]; exact ⟨by omega, by omega, by rw [itn, ← hi3], ar_set hi4 (by omega) (by omega) (by omega)⟩) | exact ⟨by omega, by omega, by rw [itn, ← hi3], ar_no hi4 (k := ck) (by omega) (by omega) (by omega)⟩) (by omega) H locs hP hD hS ls (lv_sub hl [3, 4, 1, 0] rfl)
  exact loop_42 _ q 0 ir 0 (by exact ⟨rfl, by omega, rfl, ar_0⟩) (Nat.lt_succ_self _) H locs hP hD hS ls (lv_sub hl [2, 3, 1, 0] rfl)
