abbrev rmX11_law : Room := { frames := 1, cells := 0, slots := 0, locals := 29 }
set_option maxHeartbeats 4000000 in
set_option maxRecDepth 100000 in
theorem c_X11_law (l : Launch) (D : va_G) (cI cZ : ClassId) (z : jZT) (h0 h40 h41 h42 h43 h44 h45 h46 h47 h48 h49 h50 h51 h52 : Nat) (t w th tra tn nx tk pl va fl tc km ta le rm9 rc9 fa tr ro lo : Int) (mk : Int → Int) (dr : Bool) (n9 : Nat) (hkn : km = (n9 : Int)) (hK9 : KeyI (fun j => mk (2 * j)) (fun j => mk (2 * j + 1)) n9) (ht : -2147483648 ≤ t ∧ t < 2147483648) (hw : -2147483648 ≤ w ∧ w < 2147483648) : jMu (S := Int) l yX11_law wsX11_law rmX11_law [.ref h0, .int (iI (t)), .int (iI (w))] D cI cZ z [(h0, .inr (11, [.int (iI (th)), .long (lI (tra)), .ref h40, .int (iI (tn)), .int (iI (nx)), .int (iI (tk)), .int (iI (pl)), .int (iI (va)), .int (iI (fl)), .ref h41, .ref h42, .ref h43, .ref h44, .ref h45, .ref h46, .ref h47, .ref h48, .ref h49, .ref h50, .ref h51, .int (iI (tc)), .ref h52, .int (iI (km)), .int (iI (bI dr)), .int (iI (ta)), .int (iI (le)), .int (iI (rm9)), .int (iI (rc9)), .int (iI (fa)), .int (iI (tr)), .int (iI (ro)), .int (iI (lo))])), (h52, .inl (cI, 40, .inl (aI mk)))] (fun u => some (.int (iI (u)))) (fun u => u = lawF (fun j => mk (2 * j)) (fun j => mk (2 * j + 1)) n9 t w) (fun u => [(h0, .inr (11, [.int (iI (0)), .long (lI (tra)), .ref h40, .int (iI (tn)), .int (iI (nx)), .int (iI (tk)), .int (iI (pl)), .int (iI (va)), .int (iI (fl)), .ref h41, .ref h42, .ref h43, .ref h44, .ref h45, .ref h46, .ref h47, .ref h48, .ref h49, .ref h50, .ref h51, .int (iI (tc)), .ref h52, .int (iI (km)), .int (iI (bI dr)), .int (iI (ta)), .int (iI (le)), .int (iI (rm9)), .int (iI (rc9)), .int (iI (fa)), .int (iI (tr)), .int (iI (ro)), .int (iI (lo))])), (h52, .inl (cI, 40, .inl (aI mk)))]) := by
  refine jMu_of (cc := cX11_law) (n := 17) (ret := (some .int)) (by decide) rfl (Nat.le_of_ble_eq_true rfl) ?_
  intro p e s m below meth c A ls args Q hQ F hA hZ hP hK hD hS hl
  obtain ⟨hx, hb, hr, hml, hown, hts, hlocks⟩ := F
  have hown : s.vm.findClass RX11 = some m.cls := hown
  have hl : lv_has ls 17 [(0, .ref h0), (1, .int (iI (t))), (2, .int (iI (w)))] := hl
  have L56 := hts (.fieldLink RX11 56 "TinMouseModel" "thrown" "I") (by decide +kernel)
  have C244 := hts (.constant RX11 244 (-1000000)) (by decide +kernel)
  have L241 := hts (.fieldLink RX11 241 "TinMouseModel" "keyMany" "I") (by decide +kernel)
  have L47 := hts (.fieldLink RX11 47 "TinMouseModel" "keys" "[I") (by decide +kernel)
  have UX11 : ∀ w ∈ wsX110, w ∈ wsX11_law := fun w h => List.mem_cons_of_mem _ (List.mem_append_right _ h)
  have hn20 := hK9.1
  refine lv_aload_n hx hb dX11_law_0 rfl (lv_at hl 0 rfl) ?_
  refine lv_iconst (v := iI (0)) hx hb dX11_law_1 rfl ?_
  refine va_put (D := D) (ci := 11) (v := .int (iI (0))) (ty := .int) (C := RX11) (T := TX11) (N := 32) hx hb hts UX11 tyX11 tyX11_ok nmX11 hown hK hP hD hS 0 rfl rfl 0 (by decide) L56 (fun _ h9 => h9) rfl rfl rfl rfl (Nat.le_of_ble_eq_true rfl) dX11_law_2 (fun H locs hP hD hS => ?_)
  have hP : va_P D vwCl [(h0, .inr (11, [.int (iI (0)), .long (lI (tra)), .ref h40, .int (iI (tn)), .int (iI (nx)), .int (iI (tk)), .int (iI (pl)), .int (iI (va)), .int (iI (fl)), .ref h41, .ref h42, .ref h43, .ref h44, .ref h45, .ref h46, .ref h47, .ref h48, .ref h49, .ref h50, .ref h51, .int (iI (tc)), .ref h52, .int (iI (km)), .int (iI (bI dr)), .int (iI (ta)), .int (iI (le)), .int (iI (rm9)), .int (iI (rc9)), .int (iI (fa)), .int (iI (tr)), .int (iI (ro)), .int (iI (lo))])), (h52, .inl (cI, 40, .inl (aI mk)))] H := hP
  have hD : va_D A [(h0, .inr (11, [.int (iI (0)), .long (lI (tra)), .ref h40, .int (iI (tn)), .int (iI (nx)), .int (iI (tk)), .int (iI (pl)), .int (iI (va)), .int (iI (fl)), .ref h41, .ref h42, .ref h43, .ref h44, .ref h45, .ref h46, .ref h47, .ref h48, .ref h49, .ref h50, .ref h51, .int (iI (tc)), .ref h52, .int (iI (km)), .int (iI (bI dr)), .int (iI (ta)), .int (iI (le)), .int (iI (rm9)), .int (iI (rc9)), .int (iI (fa)), .int (iI (tr)), .int (iI (ro)), .int (iI (lo))])), (h52, .inl (cI, 40, .inl (aI mk)))] := hD
  refine lv_iload_n hx hb dX11_law_5 rfl (lv_at hl 1 rfl) ?_
  refine lv_iconst (v := iI (0)) hx hb dX11_law_6 rfl ?_
  refine lv_bipush (v := iI (99)) hx hb dX11_law_7 (by decide) ?_
  refine j_rd (va_runS (As := [.int (iI (t)), .int (iI (0)), .int (iI (99))]) (rest := []) ⟨hx, hb, hml, hown, hts⟩ (c_X11_in l D cI cZ z t 0 99 (by first | assumption | omega) (by first | assumption | omega) (by first | assumption | omega) H.size) (va_cwS 3 hts gX11_law_X11_in rfl rfl rfl hsX11_in ⟨Nat.le_of_ble_eq_true rfl, Nat.le_of_ble_eq_true rfl⟩) (j_preS hP hD hK hS hZ hA [] rfl rfl) rfl rfl hl.1 rfl (lv_room (Nat.le_of_ble_eq_true rfl)) dX11_law_9 ⟨Nat.zero_le _, Nat.zero_le _⟩) ?_
  refine j_ifeq_d (tgt := 24) hx hb dX11_law_12 (by decide) (fun c_12 => ?_) (fun c_12 => ?_)
  · refine lv_ldc (v := iI (-1000000)) hx hb hown C244 dX11_law_24 ?_
    rw [hQ]; exact jm_iret (-1000000) hx hb hr hlocks hS hP rfl (by (try dsimp only); rw [law_no1 (by omega)]) dX11_law_26
  · refine lv_iload_n hx hb dX11_law_15 rfl (lv_at hl 2 rfl) ?_
    refine lv_iconst (v := iI (0)) hx hb dX11_law_16 rfl ?_
    refine lv_iconst (v := iI (3)) hx hb dX11_law_17 rfl ?_
    refine j_rd (va_runS (As := [.int (iI (w)), .int (iI (0)), .int (iI (3))]) (rest := []) ⟨hx, hb, hml, hown, hts⟩ (c_X11_in l D cI cZ z w 0 3 (by first | assumption | omega) (by first | assumption | omega) (by first | assumption | omega) H.size) (va_cwS 3 hts gX11_law_X11_in rfl rfl rfl hsX11_in ⟨Nat.le_of_ble_eq_true rfl, Nat.le_of_ble_eq_true rfl⟩) (j_preS hP hD hK hS hZ hA [] rfl rfl) rfl rfl hl.1 rfl (lv_room (Nat.le_of_ble_eq_true rfl)) dX11_law_18 ⟨Nat.zero_le _, Nat.zero_le _⟩) ?_
    refine j_ifne_d (tgt := 27) hx hb dX11_law_21 (by decide) (fun c_21 => ?_) (fun c_21 => ?_)
    · refine lv_lconst (v := lI (0)) hx hb dX11_law_27 (by decide) ?_
      refine lv_lstore_n (lv' := [(3, .long (lI (0))), (0, .ref h0), (1, .int (iI (t))), (2, .int (iI (w)))]) hx hb dX11_law_28 rfl hl (by decide) rfl (fun ls hl => ?_)
      refine lv_lconst (v := lI (0)) hx hb dX11_law_29 (by decide) ?_
      refine lv_lstore (lv' := [(5, .long (lI (0))), (3, .long (lI (0))), (0, .ref h0), (1, .int (iI (t))), (2, .int (iI (w)))]) hx hb dX11_law_30 hl (by decide) rfl (fun ls hl => ?_)
      refine lv_lconst (v := lI (0)) hx hb dX11_law_32 (by decide) ?_
      refine lv_lstore (lv' := [(7, .long (lI (0))), (5, .long (lI (0))), (3, .long (lI (0))), (0, .ref h0), (1, .int (iI (t))), (2, .int (iI (w)))]) hx hb dX11_law_33 hl (by decide) rfl (fun ls hl => ?_)
      refine lv_lconst (v := lI (0)) hx hb dX11_law_35 (by decide) ?_
      refine lv_lstore (lv' := [(9, .long (lI (0))), (7, .long (lI (0))), (5, .long (lI (0))), (3, .long (lI (0))), (0, .ref h0), (1, .int (iI (t))), (2, .int (iI (w)))]) hx hb dX11_law_36 hl (by decide) rfl (fun ls hl => ?_)
      refine lv_iconst (v := iI (0)) hx hb dX11_law_38 rfl ?_
      refine lv_istore (lv' := [(11, .int (iI (0))), (9, .long (lI (0))), (7, .long (lI (0))), (5, .long (lI (0))), (3, .long (lI (0))), (0, .ref h0), (1, .int (iI (t))), (2, .int (iI (w)))]) hx hb dX11_law_39 hl (by decide) rfl (fun ls hl => ?_)
      have loop_41 : ∀ (fuel_41 : Nat) (x : Int) (y : Int) (xx : Int) (xy : Int) (i : Int) (n : Nat), (i = (n : Int) ∧ n ≤ n9 ∧ x = kX (fun j => mk (2 * j)) n ∧ y = kX (fun j => mk (2 * j + 1)) n ∧ xx = kXX (fun j => mk (2 * j)) n ∧ xy = kXY (fun j => mk (2 * j)) (fun j => mk (2 * j + 1)) n) → (n9 - n) < fuel_41 → ∀ (H : Heap) (locs : List Loc), va_P D vwCl [(h0, .inr (11, [.int (iI (0)), .long (lI (tra)), .ref h40, .int (iI (tn)), .int (iI (nx)), .int (iI (tk)), .int (iI (pl)), .int (iI (va)), .int (iI (fl)), .ref h41, .ref h42, .ref h43, .ref h44, .ref h45, .ref h46, .ref h47, .ref h48, .ref h49, .ref h50, .ref h51, .int (iI (tc)), .ref h52, .int (iI (km)), .int (iI (bI dr)), .int (iI (ta)), .int (iI (le)), .int (iI (rm9)), .int (iI (rc9)), .int (iI (fa)), .int (iI (tr)), .int (iI (ro)), .int (iI (lo))])), (h52, .inl (cI, 40, .inl (aI mk)))] H → va_D A [(h0, .inr (11, [.int (iI (0)), .long (lI (tra)), .ref h40, .int (iI (tn)), .int (iI (nx)), .int (iI (tk)), .int (iI (pl)), .int (iI (va)), .int (iI (fl)), .ref h41, .ref h42, .ref h43, .ref h44, .ref h45, .ref h46, .ref h47, .ref h48, .ref h49, .ref h50, .ref h51, .int (iI (tc)), .ref h52, .int (iI (km)), .int (iI (bI dr)), .int (iI (ta)), .int (iI (le)), .int (iI (rm9)), .int (iI (rc9)), .int (iI (fa)), .int (iI (tr)), .int (iI (ro)), .int (iI (lo))])), (h52, .inl (cI, 40, .inl (aI mk)))] → va_S A s.heap H locs → ∀ ls : Array Slot, lv_has ls 17 [(0, .ref h0), (1, .int (iI (t))), (2, .int (iI (w))), (3, .long (lI (x))), (5, .long (lI (y))), (7, .long (lI (xx))), (9, .long (lI (xy))), (11, .int (iI (i)))] → W p l e rmX11_law s m args below meth c H locs 0 0 Q (F0 m 41 ls []) := by
        intro fuel_41
        induction fuel_41 with
        | zero => intro x y xx xy i n hI9 hm9; exact absurd hm9 (Nat.not_lt_zero _)
        | succ fuel_41 ih_41 =>
          intro x y xx xy i n hI_41 hm_41 H locs hP hD hS ls hl
          obtain ⟨hi1, hi2, hi3, hi4, hi5, hi6⟩ := hI_41
          refine lv_iload hx hb dX11_law_41 (lv_at hl 7 rfl) ?_
          refine lv_aload_n hx hb dX11_law_43 rfl (lv_at hl 0 rfl) ?_
          refine va_get (D := D) (ci := 11) (v := .int (iI (km))) (C := RX11) (T := TX11) (N := 32) hx hb hts UX11 hown hK hP 0 rfl rfl 22 (by decide) L241 (fun _ h9 => h9) rfl dX11_law_44 ?_
          refine j_icmp_ge (tgt := 138) hx hb (by omega) dX11_law_47 (by decide) (fun c_47 => ?_) (fun c_47 => ?_)
          · have hnn : n = n9 := (by omega)
            subst hnn
            have hlr := kLo_rng hK9
            have hln := kLo_nn (fun j => mk (2 * j)) n
            have hsr := kSl_rng hK9
            have hkr := key_rng hK9 (Nat.le_refl n)
            refine lv_aload_n hx hb dX11_law_138 rfl (lv_at hl 0 rfl) ?_
            refine va_get (D := D) (ci := 11) (v := .int (iI (km))) (C := RX11) (T := TX11) (N := 32) hx hb hts UX11 hown hK hP 0 rfl rfl 22 (by decide) L241 (fun _ h9 => h9) rfl dX11_law_139 ?_
            refine j_i2l hx hb (by omega) dX11_law_142 ?_
            refine lv_lload hx hb dX11_law_143 (lv_at hl 5 rfl) ?_
            refine j_lmul hx hb dX11_law_145 ?_
            refine lv_lload_n hx hb dX11_law_146 rfl (lv_at hl 3 rfl) ?_
            refine lv_lload_n hx hb dX11_law_147 rfl (lv_at hl 3 rfl) ?_
            refine j_lmul hx hb dX11_law_148 ?_
            refine j_lsub hx hb dX11_law_149 ?_
            refine j_topl (fun dn edn => ?_)
            have hdn : dn = kLo (fun j => mk (2 * j)) n := (by rw [edn]; unfold kLo; rw [hkn, hi3, hi5])
            refine lv_lstore (lv' := [(11, .long (lI (dn))), (0, .ref h0), (1, .int (iI (t))), (2, .int (iI (w))), (3, .long (lI (x))), (5, .long (lI (y))), (7, .long (lI (xx))), (9, .long (lI (xy)))]) hx hb dX11_law_150 hl (by decide) rfl (fun ls hl => ?_)
            refine lv_aload_n hx hb dX11_law_152 rfl (lv_at hl 1 rfl) ?_
            refine va_get (D := D) (ci := 11) (v := .int (iI (km))) (C := RX11) (T := TX11) (N := 32) hx hb hts UX11 hown hK hP 0 rfl rfl 22 (by decide) L241 (fun _ h9 => h9) rfl dX11_law_153 ?_
            refine j_i2l hx hb (by omega) dX11_law_156 ?_
            refine lv_lload hx hb dX11_law_157 (lv_at hl 7 rfl) ?_
            refine j_lmul hx hb dX11_law_159 ?_
            refine lv_lload_n hx hb dX11_law_160 rfl (lv_at hl 4 rfl) ?_
            refine lv_lload hx hb dX11_law_161 (lv_at hl 5 rfl) ?_
            refine j_lmul hx hb dX11_law_163 ?_
            refine j_lsub hx hb dX11_law_164 ?_
            refine j_topl (fun sl esl => ?_)
            have hsl : sl = kSl (fun j => mk (2 * j)) (fun j => mk (2 * j + 1)) n := (by rw [esl]; unfold kSl; rw [hkn, hi3, hi4, hi6])
            refine lv_lstore (lv' := [(13, .long (lI (sl))), (11, .long (lI (dn))), (0, .ref h0), (1, .int (iI (t))), (2, .int (iI (w))), (3, .long (lI (x))), (5, .long (lI (y))), (7, .long (lI (xx))), (9, .long (lI (xy)))]) hx hb dX11_law_165 hl (by decide) rfl (fun ls hl => ?_)
            refine lv_lload hx hb dX11_law_167 (lv_at hl 1 rfl) ?_
            refine lv_lconst (v := lI (0)) hx hb dX11_law_169 (by decide) ?_
            refine j_lcmp hx hb (by omega) dX11_law_170 ?_
            refine j_if_ne (tgt := 177) hx hb (by omega) dX11_law_171 (by decide) (fun c_171 => ?_) (fun c_171 => ?_)
            · refine lv_iload_n hx hb dX11_law_177 rfl (lv_at hl 4 rfl) ?_
              refine lv_iconst (v := iI (1)) hx hb dX11_law_178 rfl ?_
              refine j_icmp_le (tgt := 212) hx hb (by omega) dX11_law_179 (by decide) (fun c_179 => ?_) (fun c_179 => ?_)
              · refine lv_lload hx hb dX11_law_212 (lv_at hl 0 rfl) ?_
                refine lv_lload hx hb dX11_law_214 (lv_at hl 1 rfl) ?_
                refine j_rd (va_runS (As := [.long (lI (sl)), .long (lI (dn))]) (rest := []) ⟨hx, hb, hml, hown, hts⟩ (c_X11_gcd l D cI cZ z sl dn (by first | assumption | omega) (by first | assumption | omega) H.size) (va_cwS 2 hts gX11_law_X11_gcd rfl rfl rfl hsX11_gcd ⟨Nat.le_of_ble_eq_true rfl, Nat.le_of_ble_eq_true rfl⟩) (j_preS hP hD hK hS hZ hA [] rfl rfl) rfl rfl hl.1 rfl (lv_room (Nat.le_of_ble_eq_true rfl)) dX11_law_216 ⟨Nat.zero_le _, Nat.zero_le _⟩) ?_
                refine j_topl (fun g9 eg9 => ?_)
                have hgl := gcI_le (a := sl) (b := dn) (by omega)
                refine lv_lstore (lv' := [(15, .long (lI (g9))), (13, .long (lI (sl))), (11, .long (lI (dn))), (0, .ref h0), (1, .int (iI (t))), (2, .int (iI (w))), (3, .long (lI (x))), (5, .long (lI (y))), (7, .long (lI (xx))), (9, .long (lI (xy)))]) hx hb dX11_law_219 hl (by decide) rfl (fun ls hl => ?_)
                refine lv_iload_n hx hb dX11_law_221 rfl (lv_at hl 5 rfl) ?_
                refine lv_iconst (v := iI (2)) hx hb dX11_law_222 rfl ?_
                refine j_irem hx hb (by omega) dX11_law_223 ?_
                refine j_if_ne (tgt := 235) hx hb (by omega) dX11_law_224 (by decide) (fun c_224 => ?_) (fun c_224 => ?_)
                · refine lv_lload hx hb dX11_law_235 (lv_at hl 2 rfl) ?_
                  refine lv_lload hx hb dX11_law_237 (lv_at hl 0 rfl) ?_
                  refine j_ldiv hx hb (by omega) dX11_law_239 ?_
                  refine j_l2i hx hb dX11_law_240 ?_
                  rw [hQ]; exact jm_iret (Int.tdiv dn g9) hx hb hr hlocks hS hP rfl (by (try dsimp only); first | (have hkf : kUp (fun j => mk (2 * j)) (fun j => mk (2 * j + 1)) n t false = kSl (fun j => mk (2 * j)) (fun j => mk (2 * j + 1)) n := (by unfold kUp; rw [if_neg (by decide)]); rw [law_ok (b := false) (by omega) (by omega) (decide_eq_false (by omega)), hkf, ← hdn, ← hsl]; (first | rw [← eg9] | rw [← eg9_1]); first | (rw [if_pos (by omega)]; done) | (rw [if_neg (by omega)]; done)) | (rw [law_ok (b := true) (by omega) (by omega) (decide_eq_true (by omega))]; have hls := law_sc (n := km) (U := kUp (fun j => mk (2 * j)) (fun j => mk (2 * j + 1)) n t true) (D := dn) hkm0; rw [← hup, ← edn2] at hls; (first | rw [← eg9] at hls | rw [← eg9_1] at hls); rw [← hdn]; first | (rw [if_pos (by omega)]; exact hls.1) | (rw [if_neg (by omega)]; exact hls.2))) dX11_law_241
                · refine lv_lload hx hb dX11_law_227 (lv_at hl 1 rfl) ?_
                  refine lv_lload hx hb dX11_law_229 (lv_at hl 0 rfl) ?_
                  refine j_ldiv hx hb (by omega) dX11_law_231 ?_
                  refine lv_goto (tgt := 240) hx hb dX11_law_232 (by decide) ?_
                  refine j_l2i hx hb dX11_law_240 ?_
                  rw [hQ]; exact jm_iret (Int.tdiv sl g9) hx hb hr hlocks hS hP rfl (by (try dsimp only); first | (have hkf : kUp (fun j => mk (2 * j)) (fun j => mk (2 * j + 1)) n t false = kSl (fun j => mk (2 * j)) (fun j => mk (2 * j + 1)) n := (by unfold kUp; rw [if_neg (by decide)]); rw [law_ok (b := false) (by omega) (by omega) (decide_eq_false (by omega)), hkf, ← hdn, ← hsl]; (first | rw [← eg9] | rw [← eg9_1]); first | (rw [if_pos (by omega)]; done) | (rw [if_neg (by omega)]; done)) | (rw [law_ok (b := true) (by omega) (by omega) (decide_eq_true (by omega))]; have hls := law_sc (n := km) (U := kUp (fun j => mk (2 * j)) (fun j => mk (2 * j + 1)) n t true) (D := dn) hkm0; rw [← hup, ← edn2] at hls; (first | rw [← eg9] at hls | rw [← eg9_1] at hls); rw [← hdn]; first | (rw [if_pos (by omega)]; exact hls.1) | (rw [if_neg (by omega)]; exact hls.2))) dX11_law_241
              · refine lv_lload hx hb dX11_law_182 (lv_at hl 6 rfl) ?_
                refine lv_lload hx hb dX11_law_184 (lv_at hl 1 rfl) ?_
                refine j_lmul hx hb dX11_law_186 ?_
                refine lv_lload hx hb dX11_law_187 (lv_at hl 0 rfl) ?_
                refine lv_aload_n hx hb dX11_law_189 rfl (lv_at hl 2 rfl) ?_
                have hmt := mul_b (a := km) (b := t) (A := 20) (B := 99) (by omega) (by omega)
                refine va_get (D := D) (ci := 11) (v := .int (iI (km))) (C := RX11) (T := TX11) (N := 32) hx hb hts UX11 hown hK hP 0 rfl rfl 22 (by decide) L241 (fun _ h9 => h9) rfl dX11_law_190 ?_
                refine lv_iload_n hx hb dX11_law_193 rfl (lv_at hl 3 rfl) ?_
                refine j_imul hx hb dX11_law_194 ?_
                refine j_i2l hx hb (by omega) dX11_law_195 ?_
                refine lv_lload_n hx hb dX11_law_196 rfl (lv_at hl 5 rfl) ?_
                refine j_lsub hx hb dX11_law_197 ?_
                refine j_lmul hx hb dX11_law_198 ?_
                refine j_ladd hx hb dX11_law_199 ?_
                refine j_topl (fun up2 eup2 => ?_)
                have hU := kUp_rng hK9 (t := t) (by omega) true
                have hup : up2 = km * kUp (fun j => mk (2 * j)) (fun j => mk (2 * j + 1)) n t true := (by rw [eup2, hdn, hsl, hi3, hi4]; unfold kUp kLo kSl; rw [if_pos rfl, hkn]; exact up_eq _ _ _ _ _ _)
                have hub := mul_pm (a := kUp (fun j => mk (2 * j)) (fun j => mk (2 * j + 1)) n t true) (b := km) (A := 1000000000) (B := 20) hU (by omega) (by omega)
                rw [Int.mul_comm (kUp (fun j => mk (2 * j)) (fun j => mk (2 * j + 1)) n t true) km, ← hup] at hub
                refine lv_lstore (lv' := [(13, .long (lI (up2))), (11, .long (lI (dn))), (0, .ref h0), (1, .int (iI (t))), (2, .int (iI (w))), (3, .long (lI (x))), (5, .long (lI (y))), (7, .long (lI (xx))), (9, .long (lI (xy)))]) hx hb dX11_law_200 hl (by decide) rfl (fun ls hl => ?_)
                refine lv_lload hx hb dX11_law_202 (lv_at hl 1 rfl) ?_
                refine lv_aload_n hx hb dX11_law_204 rfl (lv_at hl 2 rfl) ?_
                refine va_get (D := D) (ci := 11) (v := .int (iI (km))) (C := RX11) (T := TX11) (N := 32) hx hb hts UX11 hown hK hP 0 rfl rfl 22 (by decide) L241 (fun _ h9 => h9) rfl dX11_law_205 ?_
                refine j_i2l hx hb (by omega) dX11_law_208 ?_
                refine j_lmul hx hb dX11_law_209 ?_
                refine j_topl (fun dn2 edn2 => ?_)
                have hdb := mul_b (a := dn) (b := km) (A := 40000) (B := 20) (by omega) (by omega)
                rw [← edn2] at hdb
                have hkm0 : 0 < km := (by by_cases hz : km = 0; (have h0 : n = 0 := (by omega); subst h0; have h1 : dn = 0 := (by rw [hdn]; rfl); omega); (omega))
                have hdp : 0 < dn2 := (by rw [edn2]; exact Int.mul_pos (by omega) hkm0)
                refine lv_lstore (lv' := [(11, .long (lI (dn2))), (13, .long (lI (up2))), (0, .ref h0), (1, .int (iI (t))), (2, .int (iI (w))), (3, .long (lI (x))), (5, .long (lI (y))), (7, .long (lI (xx))), (9, .long (lI (xy)))]) hx hb dX11_law_210 hl (by decide) rfl (fun ls hl => ?_)
                refine lv_lload hx hb dX11_law_212 (lv_at hl 1 rfl) ?_
                refine lv_lload hx hb dX11_law_214 (lv_at hl 0 rfl) ?_
                refine j_rd (va_runS (As := [.long (lI (up2)), .long (lI (dn2))]) (rest := []) ⟨hx, hb, hml, hown, hts⟩ (c_X11_gcd l D cI cZ z up2 dn2 (by first | assumption | omega) (by first | assumption | omega) H.size) (va_cwS 2 hts gX11_law_X11_gcd rfl rfl rfl hsX11_gcd ⟨Nat.le_of_ble_eq_true rfl, Nat.le_of_ble_eq_true rfl⟩) (j_preS hP hD hK hS hZ hA [] rfl rfl) rfl rfl hl.1 rfl (lv_room (Nat.le_of_ble_eq_true rfl)) dX11_law_216 ⟨Nat.zero_le _, Nat.zero_le _⟩) ?_
                refine j_topl (fun g9_1 eg9_1 => ?_)
                have hgl := gcI_le (a := up2) (b := dn2) (by omega)
                refine lv_lstore (lv' := [(15, .long (lI (g9_1))), (11, .long (lI (dn2))), (13, .long (lI (up2))), (0, .ref h0), (1, .int (iI (t))), (2, .int (iI (w))), (3, .long (lI (x))), (5, .long (lI (y))), (7, .long (lI (xx))), (9, .long (lI (xy)))]) hx hb dX11_law_219 hl (by decide) rfl (fun ls hl => ?_)
                refine lv_iload_n hx hb dX11_law_221 rfl (lv_at hl 5 rfl) ?_
                refine lv_iconst (v := iI (2)) hx hb dX11_law_222 rfl ?_
                refine j_irem hx hb (by omega) dX11_law_223 ?_
                refine j_if_ne (tgt := 235) hx hb (by omega) dX11_law_224 (by decide) (fun c_224_1 => ?_) (fun c_224_1 => ?_)
                · refine lv_lload hx hb dX11_law_235 (lv_at hl 1 rfl) ?_
                  refine lv_lload hx hb dX11_law_237 (lv_at hl 0 rfl) ?_
                  refine j_ldiv hx hb (by omega) dX11_law_239 ?_
                  refine j_l2i hx hb dX11_law_240 ?_
                  rw [hQ]; exact jm_iret (Int.tdiv dn2 g9_1) hx hb hr hlocks hS hP rfl (by (try dsimp only); first | (have hkf : kUp (fun j => mk (2 * j)) (fun j => mk (2 * j + 1)) n t false = kSl (fun j => mk (2 * j)) (fun j => mk (2 * j + 1)) n := (by unfold kUp; rw [if_neg (by decide)]); rw [law_ok (b := false) (by omega) (by omega) (decide_eq_false (by omega)), hkf, ← hdn, ← hsl]; (first | rw [← eg9] | rw [← eg9_1]); first | (rw [if_pos (by omega)]; done) | (rw [if_neg (by omega)]; done)) | (rw [law_ok (b := true) (by omega) (by omega) (decide_eq_true (by omega))]; have hls := law_sc (n := km) (U := kUp (fun j => mk (2 * j)) (fun j => mk (2 * j + 1)) n t true) (D := dn) hkm0; rw [← hup, ← edn2] at hls; (first | rw [← eg9] at hls | rw [← eg9_1] at hls); rw [← hdn]; first | (rw [if_pos (by omega)]; exact hls.1) | (rw [if_neg (by omega)]; exact hls.2))) dX11_law_241
                · refine lv_lload hx hb dX11_law_227 (lv_at hl 2 rfl) ?_
                  refine lv_lload hx hb dX11_law_229 (lv_at hl 0 rfl) ?_
                  refine j_ldiv hx hb (by omega) dX11_law_231 ?_
                  refine lv_goto (tgt := 240) hx hb dX11_law_232 (by decide) ?_
                  refine j_l2i hx hb dX11_law_240 ?_
                  rw [hQ]; exact jm_iret (Int.tdiv up2 g9_1) hx hb hr hlocks hS hP rfl (by (try dsimp only); first | (have hkf : kUp (fun j => mk (2 * j)) (fun j => mk (2 * j + 1)) n t false = kSl (fun j => mk (2 * j)) (fun j => mk (2 * j + 1)) n := (by unfold kUp; rw [if_neg (by decide)]); rw [law_ok (b := false) (by omega) (by omega) (decide_eq_false (by omega)), hkf, ← hdn, ← hsl]; (first | rw [← eg9] | rw [← eg9_1]); first | (rw [if_pos (by omega)]; done) | (rw [if_neg (by omega)]; done)) | (rw [law_ok (b := true) (by omega) (by omega) (decide_eq_true (by omega))]; have hls := law_sc (n := km) (U := kUp (fun j => mk (2 * j)) (fun j => mk (2 * j + 1)) n t true) (D := dn) hkm0; rw [← hup, ← edn2] at hls; (first | rw [← eg9] at hls | rw [← eg9_1] at hls); rw [← hdn]; first | (rw [if_pos (by omega)]; exact hls.1) | (rw [if_neg (by omega)]; exact hls.2))) dX11_law_241
            · refine lv_ldc (v := iI (-1000000)) hx hb hown C244 dX11_law_174 ?_
              rw [hQ]; exact jm_iret (-1000000) hx hb hr hlocks hS hP rfl (by (try dsimp only); rw [law_no2 (by omega) (by omega)]) dX11_law_176
          · have hke := hK9.2 i (by omega) (by omega)
            dsimp only at hke
            have hp1 := mul_b (a := mk (2 * i)) (b := mk (2 * i)) (A := 9) (B := 9) (by omega) (by omega)
            have hp2 := mul_b (a := mk (2 * i)) (b := mk (2 * i + 1)) (A := 9) (B := 999) (by omega) (by omega)
            refine lv_lload_n hx hb dX11_law_50 rfl (lv_at hl 3 rfl) ?_
            refine lv_aload_n hx hb dX11_law_51 rfl (lv_at hl 0 rfl) ?_
            refine va_get (D := D) (ci := 11) (v := .ref h52) (C := RX11) (T := TX11) (N := 32) hx hb hts UX11 hown hK hP 0 rfl rfl 21 (by decide) L47 (fun _ h9 => h9) rfl dX11_law_52 ?_
            refine lv_iconst (v := iI (2)) hx hb dX11_law_55 rfl ?_
            refine lv_iload hx hb dX11_law_56 (lv_at hl 7 rfl) ?_
            refine j_imul hx hb dX11_law_58 ?_
            refine j_iald hx hb hK hP 1 0 rfl rfl (by omega) dX11_law_59 ?_
            refine j_i2l hx hb (by omega) dX11_law_60 ?_
            refine j_ladd hx hb dX11_law_61 ?_
            refine lv_lstore_n (lv' := [(3, .long (lI (x + (mk (2 * i))))), (0, .ref h0), (1, .int (iI (t))), (2, .int (iI (w))), (5, .long (lI (y))), (7, .long (lI (xx))), (9, .long (lI (xy))), (11, .int (iI (i)))]) hx hb dX11_law_62 rfl hl (by decide) rfl (fun ls hl => ?_)
            refine lv_lload hx hb dX11_law_63 (lv_at hl 4 rfl) ?_
            refine lv_aload_n hx hb dX11_law_65 rfl (lv_at hl 1 rfl) ?_
            refine va_get (D := D) (ci := 11) (v := .ref h52) (C := RX11) (T := TX11) (N := 32) hx hb hts UX11 hown hK hP 0 rfl rfl 21 (by decide) L47 (fun _ h9 => h9) rfl dX11_law_66 ?_
            refine lv_iconst (v := iI (2)) hx hb dX11_law_69 rfl ?_
            refine lv_iload hx hb dX11_law_70 (lv_at hl 7 rfl) ?_
            refine j_imul hx hb dX11_law_72 ?_
            refine lv_iconst (v := iI (1)) hx hb dX11_law_73 rfl ?_
            refine j_iadd hx hb dX11_law_74 ?_
            refine j_iald hx hb hK hP 1 0 rfl rfl (by omega) dX11_law_75 ?_
            refine j_i2l hx hb (by omega) dX11_law_76 ?_
            refine j_ladd hx hb dX11_law_77 ?_
            refine lv_lstore (lv' := [(5, .long (lI (y + (mk ((2 * i) + 1))))), (3, .long (lI (x + (mk (2 * i))))), (0, .ref h0), (1, .int (iI (t))), (2, .int (iI (w))), (7, .long (lI (xx))), (9, .long (lI (xy))), (11, .int (iI (i)))]) hx hb dX11_law_78 hl (by decide) rfl (fun ls hl => ?_)
            refine lv_lload hx hb dX11_law_80 (lv_at hl 5 rfl) ?_
            refine lv_aload_n hx hb dX11_law_82 rfl (lv_at hl 2 rfl) ?_
            refine va_get (D := D) (ci := 11) (v := .ref h52) (C := RX11) (T := TX11) (N := 32) hx hb hts UX11 hown hK hP 0 rfl rfl 21 (by decide) L47 (fun _ h9 => h9) rfl dX11_law_83 ?_
            refine lv_iconst (v := iI (2)) hx hb dX11_law_86 rfl ?_
            refine lv_iload hx hb dX11_law_87 (lv_at hl 7 rfl) ?_
            refine j_imul hx hb dX11_law_89 ?_
            refine j_iald hx hb hK hP 1 0 rfl rfl (by omega) dX11_law_90 ?_
            refine lv_aload_n hx hb dX11_law_91 rfl (lv_at hl 2 rfl) ?_
            refine va_get (D := D) (ci := 11) (v := .ref h52) (C := RX11) (T := TX11) (N := 32) hx hb hts UX11 hown hK hP 0 rfl rfl 21 (by decide) L47 (fun _ h9 => h9) rfl dX11_law_92 ?_
            refine lv_iconst (v := iI (2)) hx hb dX11_law_95 rfl ?_
            refine lv_iload hx hb dX11_law_96 (lv_at hl 7 rfl) ?_
            refine j_imul hx hb dX11_law_98 ?_
            refine j_iald hx hb hK hP 1 0 rfl rfl (by omega) dX11_law_99 ?_
            refine j_imul hx hb dX11_law_100 ?_
            refine j_i2l hx hb (by omega) dX11_law_101 ?_
            refine j_ladd hx hb dX11_law_102 ?_
            refine lv_lstore (lv' := [(7, .long (lI (xx + ((mk (2 * i)) * (mk (2 * i)))))), (5, .long (lI (y + (mk ((2 * i) + 1))))), (3, .long (lI (x + (mk (2 * i))))), (0, .ref h0), (1, .int (iI (t))), (2, .int (iI (w))), (9, .long (lI (xy))), (11, .int (iI (i)))]) hx hb dX11_law_103 hl (by decide) rfl (fun ls hl => ?_)
            refine lv_lload hx hb dX11_law_105 (lv_at hl 6 rfl) ?_
            refine lv_aload_n hx hb dX11_law_107 rfl (lv_at hl 3 rfl) ?_
            refine va_get (D := D) (ci := 11) (v := .ref h52) (C := RX11) (T := TX11) (N := 32) hx hb hts UX11 hown hK hP 0 rfl rfl 21 (by decide) L47 (fun _ h9 => h9) rfl dX11_law_108 ?_
            refine lv_iconst (v := iI (2)) hx hb dX11_law_111 rfl ?_
            refine lv_iload hx hb dX11_law_112 (lv_at hl 7 rfl) ?_
            refine j_imul hx hb dX11_law_114 ?_
            refine j_iald hx hb hK hP 1 0 rfl rfl (by omega) dX11_law_115 ?_
            refine lv_aload_n hx hb dX11_law_116 rfl (lv_at hl 3 rfl) ?_
            refine va_get (D := D) (ci := 11) (v := .ref h52) (C := RX11) (T := TX11) (N := 32) hx hb hts UX11 hown hK hP 0 rfl rfl 21 (by decide) L47 (fun _ h9 => h9) rfl dX11_law_117 ?_
            refine lv_iconst (v := iI (2)) hx hb dX11_law_120 rfl ?_
            refine lv_iload hx hb dX11_law_121 (lv_at hl 7 rfl) ?_
            refine j_imul hx hb dX11_law_123 ?_
            refine lv_iconst (v := iI (1)) hx hb dX11_law_124 rfl ?_
            refine j_iadd hx hb dX11_law_125 ?_
            refine j_iald hx hb hK hP 1 0 rfl rfl (by omega) dX11_law_126 ?_
            refine j_imul hx hb dX11_law_127 ?_
            refine j_i2l hx hb (by omega) dX11_law_128 ?_
            refine j_ladd hx hb dX11_law_129 ?_
            refine lv_lstore (lv' := [(9, .long (lI (xy + ((mk (2 * i)) * (mk ((2 * i) + 1)))))), (7, .long (lI (xx + ((mk (2 * i)) * (mk (2 * i)))))), (5, .long (lI (y + (mk ((2 * i) + 1))))), (3, .long (lI (x + (mk (2 * i))))), (0, .ref h0), (1, .int (iI (t))), (2, .int (iI (w))), (11, .int (iI (i)))]) hx hb dX11_law_130 hl (by decide) rfl (fun ls hl => ?_)
            refine lv_iinc (v := iI (i + 1)) (lv' := [(11, .int (iI (i + 1))), (9, .long (lI (xy + ((mk (2 * i)) * (mk ((2 * i) + 1)))))), (7, .long (lI (xx + ((mk (2 * i)) * (mk (2 * i)))))), (5, .long (lI (y + (mk ((2 * i) + 1))))), (3, .long (lI (x + (mk (2 * i))))), (0, .ref h0), (1, .int (iI (t))), (2, .int (iI (w)))]) hx hb dX11_law_132 hl (k := 7) rfl (iI_add _ _) (by decide) rfl (fun ls hl => ?_)
            refine lv_goto (tgt := 41) hx hb dX11_law_135 (by decide) ?_
            exact ih_41 ((x + (mk (2 * i)))) ((y + (mk ((2 * i) + 1)))) ((xx + ((mk (2 * i)) * (mk (2 * i))))) ((xy + ((mk (2 * i)) * (mk ((2 * i) + 1))))) ((i + 1)) (n + 1) (by exact ⟨by omega, by omega, by rw [hi3, hi1]; rfl, by rw [hi4, hi1]; rfl, by rw [hi5, hi1]; rfl, by rw [hi6, hi1]; rfl⟩) (by omega) H locs hP hD hS ls (lv_sub hl [5, 6, 7, 4, 3, 2, 1, 0] rfl)
      exact loop_41 _ 0 0 0 0 0 0 (by exact ⟨rfl, by omega, rfl, rfl, rfl, rfl⟩) (Nat.lt_succ_self _) H locs hP hD hS ls (lv_sub hl [5, 6, 7, 4, 3, 2, 1, 0] rfl)
    · refine lv_ldc (v := iI (-1000000)) hx hb hown C244 dX11_law_24 ?_
      rw [hQ]; exact jm_iret (-1000000) hx hb hr hlocks hS hP rfl (by (try dsimp only); rw [law_no1 (by omega)]) dX11_law_26
