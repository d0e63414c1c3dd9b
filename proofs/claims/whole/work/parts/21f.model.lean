abbrev rmX11_ringsByA : Room := { frames := 5, cells := 0, slots := 0, locals := 111 }
set_option maxHeartbeats 4000000 in
set_option maxRecDepth 100000 in
theorem c_X11_ringsByA (l : Launch) (D : va_G) (cI cZ : ClassId) (z : jZT) (h0 h40 h41 h42 h43 h44 h45 h46 h47 h48 h49 h50 h51 h52 : Nat) (n th tra tn nx tk pl va fl tc km ta le rm9 rc9 fa tr ro lo : Int) (td gd wk : Int → Int) (dr : Bool) (hW : 3 ≤ td 0 ∧ td 0 ≤ 16) (hH : 3 ≤ td 1 ∧ td 1 ≤ 16) (hg : ∀ j : Int, 0 ≤ j → j < 256 → 0 ≤ gd j ∧ gd j ≤ 2) (hno : 1 ≤ td 2 ∧ td 2 ≤ 3) (htu : 1 ≤ td 3 ∧ td 3 ≤ 7) (hbe : 0 ≤ td 4 ∧ td 4 ≤ 9) (hbl : -9 ≤ td 6 ∧ td 6 < 256) (hon : (0 ≤ wk 0 ∧ wk 0 < td 0) ∧ (0 ≤ wk 1 ∧ wk 1 < td 1) ∧ (0 ≤ wk 2 ∧ wk 2 < 8) ∧ (0 ≤ wk 3 ∧ wk 3 < 9)) (hdr : dr = false) (hn : 0 ≤ n ∧ n ≤ 999) : jMu (S := (Int → Int)) l yX11_ringsBy wsX11_ringsBy rmX11_ringsByA [.ref h0, .int (iI (n))] D cI cZ z [(h0, .inr (11, [.int (iI (th)), .long (lI (tra)), .ref h40, .int (iI (tn)), .int (iI (nx)), .int (iI (tk)), .int (iI (pl)), .int (iI (va)), .int (iI (fl)), .ref h41, .ref h42, .ref h43, .ref h44, .ref h45, .ref h46, .ref h47, .ref h48, .ref h49, .ref h50, .ref h51, .int (iI (tc)), .ref h52, .int (iI (km)), .int (iI (bI dr)), .int (iI (ta)), .int (iI (le)), .int (iI (rm9)), .int (iI (rc9)), .int (iI (fa)), .int (iI (tr)), .int (iI (ro)), .int (iI (lo))])), (h41, .inl (cI, 18, .inl (aI td))), (h42, .inl (cI, 512, .inl (aI gd))), (h46, .inl (cI, 4, .inl (aI wk)))] (fun u => some (.int (iI (bI (hitN (stF (td 0) (td 1) gd (td 2) (td 3) (td 4)) (td 6) (stdX (td 0) (wk 0) (wk 1) (wk 2) (wk 3)) n.toNat))))) (fun u => True) (fun u => [(h0, .inr (11, [.int (iI (th)), .long (lI (tra)), .ref h40, .int (iI (tn)), .int (iI (nx)), .int (iI (tk)), .int (iI (pl)), .int (iI (va)), .int (iI (fl)), .ref h41, .ref h42, .ref h43, .ref h44, .ref h45, .ref h46, .ref h47, .ref h48, .ref h49, .ref h50, .ref h51, .int (iI (tc)), .ref h52, .int (iI (km)), .int (iI (bI dr)), .int (iI (ta)), .int (iI (le)), .int (iI (rm9)), .int (iI (rc9)), .int (iI (fa)), .int (iI (tr)), .int (iI (ro)), .int (iI (lo))])), (h41, .inl (cI, 18, .inl (aI td))), (h42, .inl (cI, 512, .inl (aI gd))), (h46, .inl (cI, 4, .inl (aI u)))]) := by
  refine jMu_of (cc := cX11_ringsBy) (n := 6) (ret := (some .boolean)) (by decide) rfl (Nat.le_of_ble_eq_true rfl) ?_
  intro p e s m below meth c A ls args Q hQ F hA hZ hP hK hD hS hl
  obtain ⟨hx, hb, hr, hml, hown, hts, hlocks⟩ := F
  have hown : s.vm.findClass RX11 = some m.cls := hown
  have hl : lv_has ls 6 [(0, .ref h0), (1, .int (iI (n)))] := hl
  have L29 := hts (.fieldLink RX11 29 "TinMouseModel" "walk" "[I") (by decide +kernel)
  have L13 := hts (.fieldLink RX11 13 "TinMouseModel" "told" "[I") (by decide +kernel)
  have UX11 : ∀ w ∈ wsX110, w ∈ wsX11_ringsBy := fun w h => List.mem_cons_of_mem _ (List.mem_append_right _ h)
  have hrp0 : RepI (td 0) (td 1) wk (itn (stF (td 0) (td 1) gd (td 2) (td 3) (td 4)) (stdX (td 0) (wk 0) (wk 1) (wk 2) (wk 3)) 0) := ⟨rfl, hon⟩
  have hrc0 := rep_cell hW hH hrp0
  have hf1 := stF_1 (td 0) (td 1) gd (td 2) (td 3) (td 4)
  refine lv_aload_n hx hb dX11_ringsBy_0 rfl (lv_at hl 0 rfl) ?_
  refine lv_aload_n hx hb dX11_ringsBy_1 rfl (lv_at hl 0 rfl) ?_
  refine va_get (D := D) (ci := 11) (v := .ref h46) (C := RX11) (T := TX11) (N := 32) hx hb hts UX11 hown hK hP 0 rfl rfl 14 (by decide) L29 (fun _ h9 => h9) rfl dX11_ringsBy_2 ?_
  refine j_rd (va_runV (As := [.ref h46]) (rest := []) ⟨hx, hb, hml, hown, hts⟩ (c_X11_cellOf l D cI cZ z h0 h46 h40 h41 h42 h43 h44 h45 h46 h47 h48 h49 h50 h51 h52 th tra tn nx tk pl va fl tc km ta le rm9 rc9 fa tr ro lo td wk dr  s.heap.size) (cwV 1 hts gX11_ringsBy_X11_cellOf rfl rfl rfl hvX11_cellOf ⟨Nat.le_of_ble_eq_true rfl, Nat.le_of_ble_eq_true rfl⟩) (j_preV hP hD hK hS hZ hA [0, 1, 3] rfl rfl 0 rfl rfl) rfl rfl hl.1 rfl (lv_room (Nat.le_of_ble_eq_true rfl)) dX11_ringsBy_5 ⟨Nat.zero_le _, Nat.zero_le _⟩) ?_
  refine lv_aload_n hx hb dX11_ringsBy_8 rfl (lv_at hl 0 rfl) ?_
  refine va_get (D := D) (ci := 11) (v := .ref h41) (C := RX11) (T := TX11) (N := 32) hx hb hts UX11 hown hK hP 0 rfl rfl 9 (by decide) L13 (fun _ h9 => h9) rfl dX11_ringsBy_9 ?_
  refine lv_bipush (v := iI (6)) hx hb dX11_ringsBy_12 (by decide) ?_
  refine j_iald hx hb hK hP 1 0 rfl rfl (by omega) dX11_ringsBy_14 ?_
  obtain ⟨r0, er0⟩ : ∃ t : Int, t = if ¬ (td 0 * wk 1 + wk 0) = (td 6) then 0 else 1 := ⟨_, rfl⟩
  have kr0 : W p l e rmX11_ringsByA s m args below meth c s.heap [] 0 0 Q (F0 m 23 ls [.int (iI (r0))]) := by
    refine lv_istore_n (lv' := [(2, .int (iI (r0))), (0, .ref h0), (1, .int (iI (n)))]) hx hb dX11_ringsBy_23 rfl hl (by decide) rfl (fun ls hl => ?_)
    refine lv_iconst (v := iI (1)) hx hb dX11_ringsBy_24 rfl ?_
    refine lv_istore_n (lv' := [(3, .int (iI (1))), (2, .int (iI (r0))), (0, .ref h0), (1, .int (iI (n)))]) hx hb dX11_ringsBy_25 rfl hl (by decide) rfl (fun ls hl => ?_)
    refine lv_iconst (v := iI (0)) hx hb dX11_ringsBy_26 rfl ?_
    refine lv_istore (lv' := [(4, .int (iI (0))), (3, .int (iI (1))), (2, .int (iI (r0))), (0, .ref h0), (1, .int (iI (n)))]) hx hb dX11_ringsBy_27 hl (by decide) rfl (fun ls hl => ?_)
    have loop_29 : ∀ (fuel_29 : Nat) (ri : Int) (on9 : Int) (i : Int) (wk9 : Int → Int) (k : Nat), ((i = (k : Int) ∧ i ≤ n) ∧ ((on9 = 1 ∧ RepI (td 0) (td 1) wk9 (itn (stF (td 0) (td 1) gd (td 2) (td 3) (td 4)) (stdX (td 0) (wk 0) (wk 1) (wk 2) (wk 3)) k)) ∨ (on9 = 0 ∧ itn (stF (td 0) (td 1) gd (td 2) (td 3) (td 4)) (stdX (td 0) (wk 0) (wk 1) (wk 2) (wk 3)) k = -1)) ∧ ri = bI (hitN (stF (td 0) (td 1) gd (td 2) (td 3) (td 4)) (td 6) (stdX (td 0) (wk 0) (wk 1) (wk 2) (wk 3)) k)) → (n - i).toNat < fuel_29 → ∀ (H : Heap) (locs : List Loc), va_P D vwCl [(h0, .inr (11, [.int (iI (th)), .long (lI (tra)), .ref h40, .int (iI (tn)), .int (iI (nx)), .int (iI (tk)), .int (iI (pl)), .int (iI (va)), .int (iI (fl)), .ref h41, .ref h42, .ref h43, .ref h44, .ref h45, .ref h46, .ref h47, .ref h48, .ref h49, .ref h50, .ref h51, .int (iI (tc)), .ref h52, .int (iI (km)), .int (iI (bI dr)), .int (iI (ta)), .int (iI (le)), .int (iI (rm9)), .int (iI (rc9)), .int (iI (fa)), .int (iI (tr)), .int (iI (ro)), .int (iI (lo))])), (h41, .inl (cI, 18, .inl (aI td))), (h42, .inl (cI, 512, .inl (aI gd))), (h46, .inl (cI, 4, .inl (aI wk9)))] H → va_D A [(h0, .inr (11, [.int (iI (th)), .long (lI (tra)), .ref h40, .int (iI (tn)), .int (iI (nx)), .int (iI (tk)), .int (iI (pl)), .int (iI (va)), .int (iI (fl)), .ref h41, .ref h42, .ref h43, .ref h44, .ref h45, .ref h46, .ref h47, .ref h48, .ref h49, .ref h50, .ref h51, .int (iI (tc)), .ref h52, .int (iI (km)), .int (iI (bI dr)), .int (iI (ta)), .int (iI (le)), .int (iI (rm9)), .int (iI (rc9)), .int (iI (fa)), .int (iI (tr)), .int (iI (ro)), .int (iI (lo))])), (h41, .inl (cI, 18, .inl (aI td))), (h42, .inl (cI, 512, .inl (aI gd))), (h46, .inl (cI, 4, .inl (aI wk9)))] → va_S A s.heap H locs → ∀ ls : Array Slot, lv_has ls 6 [(0, .ref h0), (1, .int (iI (n))), (2, .int (iI (ri))), (3, .int (iI (on9))), (4, .int (iI (i)))] → W p l e rmX11_ringsByA s m args below meth c H locs 0 0 Q (F0 m 29 ls []) := by
      intro fuel_29
      induction fuel_29 with
      | zero => intro ri on9 i wk9 k hI9 hm9; exact absurd hm9 (Nat.not_lt_zero _)
      | succ fuel_29 ih_29 =>
        intro ri on9 i wk9 k hI_29 hm_29 H locs hP hD hS ls hl
        obtain ⟨hi1, hi2, hi3⟩ := hI_29
        have hrb := bI_01 (hitN (stF (td 0) (td 1) gd (td 2) (td 3) (td 4)) (td 6) (stdX (td 0) (wk 0) (wk 1) (wk 2) (wk 3)) k)
        refine lv_iload hx hb dX11_ringsBy_29 (lv_at hl 4 rfl) ?_
        refine lv_iload_n hx hb dX11_ringsBy_31 rfl (lv_at hl 1 rfl) ?_
        refine j_icmp_ge (tgt := 101) hx hb (by omega) dX11_ringsBy_32 (by decide) (fun c_32 => ?_) (fun c_32 => ?_)
        · refine lv_iload_n hx hb dX11_ringsBy_101 rfl (lv_at hl 2 rfl) ?_
          rw [show ri = bI (hitN (stF (td 0) (td 1) gd (td 2) (td 3) (td 4)) (td 6) (stdX (td 0) (wk 0) (wk 1) (wk 2) (wk 3)) n.toNat) from (by first | (rw [hi3, show n.toNat = k by omega]; done) | (rw [hi3, hit_out hf1 (hi2.resolve_left (fun w => by omega)).2 (show k ≤ n.toNat by omega)]; done) | (have h1 := bO_t (b := hitN (stF (td 0) (td 1) gd (td 2) (td 3) (td 4)) (td 6) (stdX (td 0) (wk 0) (wk 1) (wk 2) (wk 3)) k) (by omega); rw [hi3, h1, hit_mono h1 (show k ≤ n.toNat by omega)]; done))]
          rw [hQ]; exact jm_zret wk9 hx hb hr hlocks (jn_b _) hS hP rfl trivial dX11_ringsBy_102
        · refine lv_iload_n hx hb dX11_ringsBy_35 rfl (lv_at hl 3 rfl) ?_
          refine j_if_eq (tgt := 101) hx hb (by omega) dX11_ringsBy_36 (by decide) (fun c_36 => ?_) (fun c_36 => ?_)
          · refine lv_iload_n hx hb dX11_ringsBy_101 rfl (lv_at hl 2 rfl) ?_
            rw [show ri = bI (hitN (stF (td 0) (td 1) gd (td 2) (td 3) (td 4)) (td 6) (stdX (td 0) (wk 0) (wk 1) (wk 2) (wk 3)) n.toNat) from (by first | (rw [hi3, show n.toNat = k by omega]; done) | (rw [hi3, hit_out hf1 (hi2.resolve_left (fun w => by omega)).2 (show k ≤ n.toNat by omega)]; done) | (have h1 := bO_t (b := hitN (stF (td 0) (td 1) gd (td 2) (td 3) (td 4)) (td 6) (stdX (td 0) (wk 0) (wk 1) (wk 2) (wk 3)) k) (by omega); rw [hi3, h1, hit_mono h1 (show k ≤ n.toNat by omega)]; done))]
            rw [hQ]; exact jm_zret wk9 hx hb hr hlocks (jn_b _) hS hP rfl trivial dX11_ringsBy_102
          · obtain ⟨_, hrp⟩ := hi2.resolve_right (fun w => by omega)
            have hrc := rep_cell hW hH hrp
            refine lv_iload_n hx hb dX11_ringsBy_39 rfl (lv_at hl 2 rfl) ?_
            refine j_if_ne (tgt := 101) hx hb (by omega) dX11_ringsBy_40 (by decide) (fun c_40 => ?_) (fun c_40 => ?_)
            · refine lv_iload_n hx hb dX11_ringsBy_101 rfl (lv_at hl 2 rfl) ?_
              rw [show ri = bI (hitN (stF (td 0) (td 1) gd (td 2) (td 3) (td 4)) (td 6) (stdX (td 0) (wk 0) (wk 1) (wk 2) (wk 3)) n.toNat) from (by first | (rw [hi3, show n.toNat = k by omega]; done) | (rw [hi3, hit_out hf1 (hi2.resolve_left (fun w => by omega)).2 (show k ≤ n.toNat by omega)]; done) | (have h1 := bO_t (b := hitN (stF (td 0) (td 1) gd (td 2) (td 3) (td 4)) (td 6) (stdX (td 0) (wk 0) (wk 1) (wk 2) (wk 3)) k) (by omega); rw [hi3, h1, hit_mono h1 (show k ≤ n.toNat by omega)]; done))]
              rw [hQ]; exact jm_zret wk9 hx hb hr hlocks (jn_b _) hS hP rfl trivial dX11_ringsBy_102
            · have hnb := hit_not (bO_f (hi3.symm.trans c_40))
              refine lv_aload_n hx hb dX11_ringsBy_43 rfl (lv_at hl 0 rfl) ?_
              refine lv_aload_n hx hb dX11_ringsBy_44 rfl (lv_at hl 0 rfl) ?_
              refine va_get (D := D) (ci := 11) (v := .ref h46) (C := RX11) (T := TX11) (N := 32) hx hb hts UX11 hown hK hP 0 rfl rfl 14 (by decide) L29 (fun _ h9 => h9) rfl dX11_ringsBy_45 ?_
              refine j_mui (va_runV (As := [.ref h46]) (rest := []) ⟨hx, hb, hml, hown, hts⟩ (c_X11_stepsA l D cI cZ z h0 h46 h40 h41 h42 h43 h44 h45 h46 h47 h48 h49 h50 h51 h52 th tra tn nx tk pl va fl tc km ta le rm9 rc9 fa tr ro lo td gd wk9 dr (by first | assumption | omega) (by first | assumption | omega) (by first | assumption | omega) (by first | assumption | omega) (by first | assumption | omega) (by first | assumption | omega) (by exact hrp.2) (by exact hdr) H.size) (cwV 1 hts gX11_ringsBy_X11_steps rfl rfl rfl hvX11_steps ⟨Nat.le_of_ble_eq_true rfl, Nat.le_of_ble_eq_true rfl⟩) (j_preV hP hD hK hS hZ hA [0, 1, 2, 3] rfl rfl 0 rfl rfl) rfl rfl hl.1 rfl (lv_room (Nat.le_of_ble_eq_true rfl)) dX11_ringsBy_48 ⟨Nat.zero_le _, Nat.zero_le _⟩) hP hD hS hA [0, 1, 2, 3] rfl (fun _ => rfl) (fun u_9 H locs hw_48 hP hD hS => ?_)
              obtain ⟨wk3, rr⟩ := u_9
              dsimp only at hw_48
              have hP : va_P D vwCl [(h0, .inr (11, [.int (iI (th)), .long (lI (tra)), .ref h40, .int (iI (tn)), .int (iI (nx)), .int (iI (tk)), .int (iI (pl)), .int (iI (va)), .int (iI (fl)), .ref h41, .ref h42, .ref h43, .ref h44, .ref h45, .ref h46, .ref h47, .ref h48, .ref h49, .ref h50, .ref h51, .int (iI (tc)), .ref h52, .int (iI (km)), .int (iI (bI dr)), .int (iI (ta)), .int (iI (le)), .int (iI (rm9)), .int (iI (rc9)), .int (iI (fa)), .int (iI (tr)), .int (iI (ro)), .int (iI (lo))])), (h41, .inl (cI, 18, .inl (aI td))), (h42, .inl (cI, 512, .inl (aI gd))), (h46, .inl (cI, 4, .inl (aI wk3)))] H := hP
              have hD : va_D A [(h0, .inr (11, [.int (iI (th)), .long (lI (tra)), .ref h40, .int (iI (tn)), .int (iI (nx)), .int (iI (tk)), .int (iI (pl)), .int (iI (va)), .int (iI (fl)), .ref h41, .ref h42, .ref h43, .ref h44, .ref h45, .ref h46, .ref h47, .ref h48, .ref h49, .ref h50, .ref h51, .int (iI (tc)), .ref h52, .int (iI (km)), .int (iI (bI dr)), .int (iI (ta)), .int (iI (le)), .int (iI (rm9)), .int (iI (rc9)), .int (iI (fa)), .int (iI (tr)), .int (iI (ro)), .int (iI (lo))])), (h41, .inl (cI, 18, .inl (aI td))), (h42, .inl (cI, 512, .inl (aI gd))), (h46, .inl (cI, 4, .inl (aI wk3)))] := hD
              refine j_top (fun rv erv => ?_)
              dsimp only at erv
              have hms := rep_step hW hH htu hbe hrp hw_48
              have hnx : itn (stF (td 0) (td 1) gd (td 2) (td 3) (td 4)) (stdX (td 0) (wk 0) (wk 1) (wk 2) (wk 3)) (k + 1) = (stF (td 0) (td 1) gd (td 2) (td 3) (td 4)) (itn (stF (td 0) (td 1) gd (td 2) (td 3) (td 4)) (stdX (td 0) (wk 0) (wk 1) (wk 2) (wk 3)) k) := rfl
              refine lv_istore (lv' := [(5, .int (iI (rv))), (0, .ref h0), (1, .int (iI (n))), (2, .int (iI (ri))), (3, .int (iI (on9))), (4, .int (iI (i)))]) hx hb dX11_ringsBy_51 hl (by decide) rfl (fun ls hl => ?_)
              refine lv_iload hx hb dX11_ringsBy_53 (lv_at hl 0 rfl) ?_
              refine lv_iconst (v := iI (-1)) hx hb dX11_ringsBy_55 rfl ?_
              obtain ⟨ons, eons⟩ : ∃ t : Int, t = if rv = (-1) then 0 else 1 := ⟨_, rfl⟩
              have kons : W p l e rmX11_ringsByA s m args below meth c H locs 0 0 Q (F0 m 64 ls [.int (iI (ons))]) := by
                refine lv_istore_n (lv' := [(3, .int (iI (ons))), (5, .int (iI (rv))), (0, .ref h0), (1, .int (iI (n))), (2, .int (iI (ri))), (4, .int (iI (i)))]) hx hb dX11_ringsBy_64 rfl hl (by decide) rfl (fun ls hl => ?_)
                refine lv_iload hx hb dX11_ringsBy_65 (lv_at hl 1 rfl) ?_
                refine lv_iconst (v := iI (1)) hx hb dX11_ringsBy_67 rfl ?_
                refine j_icmp_ne (tgt := 93) hx hb (by omega) dX11_ringsBy_68 (by decide) (fun c_68 => ?_) (fun c_68 => ?_)
                · refine lv_iconst (v := iI (0)) hx hb dX11_ringsBy_93 rfl ?_
                  refine lv_istore_n (lv' := [(2, .int (iI (0))), (3, .int (iI (ons))), (5, .int (iI (rv))), (0, .ref h0), (1, .int (iI (n))), (4, .int (iI (i)))]) hx hb dX11_ringsBy_94 rfl hl (by decide) rfl (fun ls hl => ?_)
                  refine lv_iinc (v := iI (i + 1)) (lv' := [(4, .int (iI (i + 1))), (2, .int (iI (0))), (3, .int (iI (ons))), (5, .int (iI (rv))), (0, .ref h0), (1, .int (iI (n)))]) hx hb dX11_ringsBy_95 hl (k := 5) rfl (iI_add _ _) (by decide) rfl (fun ls hl => ?_)
                  refine lv_goto (tgt := 29) hx hb dX11_ringsBy_98 (by decide) ?_
                  exact ih_29 0 ons ((i + 1)) wk3 (k + 1) (by refine ⟨by omega, ?_, hit_s (bO_f (hi3.symm.trans (by omega))) (by omega)⟩; rcases hms with w | w; (exact Or.inr ⟨by omega, w.2⟩); (exact Or.inl ⟨by omega, w.2.1⟩)) (by omega) H locs hP hD hS ls (lv_sub hl [4, 5, 1, 2, 0] rfl)
                · have hrc2 := rep_cell hW hH (hms.resolve_left (fun w => by omega)).2.1
                  rw [← hnx] at hrc2
                  refine lv_aload_n hx hb dX11_ringsBy_71 rfl (lv_at hl 2 rfl) ?_
                  refine lv_aload_n hx hb dX11_ringsBy_72 rfl (lv_at hl 2 rfl) ?_
                  refine va_get (D := D) (ci := 11) (v := .ref h46) (C := RX11) (T := TX11) (N := 32) hx hb hts UX11 hown hK hP 0 rfl rfl 14 (by decide) L29 (fun _ h9 => h9) rfl dX11_ringsBy_73 ?_
                  refine j_rd (va_runV (As := [.ref h46]) (rest := []) ⟨hx, hb, hml, hown, hts⟩ (c_X11_cellOf l D cI cZ z h0 h46 h40 h41 h42 h43 h44 h45 h46 h47 h48 h49 h50 h51 h52 th tra tn nx tk pl va fl tc km ta le rm9 rc9 fa tr ro lo td wk3 dr  H.size) (cwV 1 hts gX11_ringsBy_X11_cellOf rfl rfl rfl hvX11_cellOf ⟨Nat.le_of_ble_eq_true rfl, Nat.le_of_ble_eq_true rfl⟩) (j_preV hP hD hK hS hZ hA [0, 1, 3] rfl rfl 0 rfl rfl) rfl rfl hl.1 rfl (lv_room (Nat.le_of_ble_eq_true rfl)) dX11_ringsBy_76 ⟨Nat.zero_le _, Nat.zero_le _⟩) ?_
                  refine lv_aload_n hx hb dX11_ringsBy_79 rfl (lv_at hl 2 rfl) ?_
                  refine va_get (D := D) (ci := 11) (v := .ref h41) (C := RX11) (T := TX11) (N := 32) hx hb hts UX11 hown hK hP 0 rfl rfl 9 (by decide) L13 (fun _ h9 => h9) rfl dX11_ringsBy_80 ?_
                  refine lv_bipush (v := iI (6)) hx hb dX11_ringsBy_83 (by decide) ?_
                  refine j_iald hx hb hK hP 1 0 rfl rfl (by omega) dX11_ringsBy_85 ?_
                  obtain ⟨t_1, et_1⟩ : ∃ t : Int, t = if ¬ (td 0 * wk3 1 + wk3 0) = (td 6) then 0 else 1 := ⟨_, rfl⟩
                  have kt_1 : W p l e rmX11_ringsByA s m args below meth c H locs 0 0 Q (F0 m 94 ls [.int (iI (t_1))]) := by
                    refine lv_istore_n (lv' := [(2, .int (iI (t_1))), (3, .int (iI (ons))), (5, .int (iI (rv))), (0, .ref h0), (1, .int (iI (n))), (4, .int (iI (i)))]) hx hb dX11_ringsBy_94 rfl hl (by decide) rfl (fun ls hl => ?_)
                    refine lv_iinc (v := iI (i + 1)) (lv' := [(4, .int (iI (i + 1))), (2, .int (iI (t_1))), (3, .int (iI (ons))), (5, .int (iI (rv))), (0, .ref h0), (1, .int (iI (n)))]) hx hb dX11_ringsBy_95 hl (k := 5) rfl (iI_add _ _) (by decide) rfl (fun ls hl => ?_)
                    refine lv_goto (tgt := 29) hx hb dX11_ringsBy_98 (by decide) ?_
                    exact ih_29 t_1 ons ((i + 1)) wk3 (k + 1) (by refine ⟨by omega, ?_, hit_s (bO_f (hi3.symm.trans (by omega))) (by omega)⟩; rcases hms with w | w; (exact Or.inr ⟨by omega, w.2⟩); (exact Or.inl ⟨by omega, w.2.1⟩)) (by omega) H locs hP hD hS ls (lv_sub hl [4, 5, 1, 2, 0] rfl)
                  refine j_icmp_ne (tgt := 93) hx hb (by omega) dX11_ringsBy_86 (by decide) (fun q_2 => ?_) (fun q_2 => ?_)
                  · refine lv_iconst (v := iI (0)) hx hb dX11_ringsBy_93 rfl ?_
                    (have q9 := kt_1; rw [et_1, if_pos q_2] at q9; exact q9)
                  · refine lv_iconst (v := iI (1)) hx hb dX11_ringsBy_89 rfl ?_
                    refine lv_goto (tgt := 94) hx hb dX11_ringsBy_90 (by decide) ?_
                    (have q9 := kt_1; rw [et_1, if_neg (fun q => q q_2)] at q9; exact q9)
              refine j_icmp_eq (tgt := 63) hx hb (by omega) dX11_ringsBy_56 (by decide) (fun q_3 => ?_) (fun q_3 => ?_)
              · refine lv_iconst (v := iI (0)) hx hb dX11_ringsBy_63 rfl ?_
                (have q9 := kons; rw [eons, if_pos q_3] at q9; exact q9)
              · refine lv_iconst (v := iI (1)) hx hb dX11_ringsBy_59 rfl ?_
                refine lv_goto (tgt := 64) hx hb dX11_ringsBy_60 (by decide) ?_
                (have q9 := kons; rw [eons, if_neg q_3] at q9; exact q9)
    exact loop_29 _ r0 1 0 wk 0 (by exact ⟨by omega, Or.inl ⟨rfl, hrp0⟩, hit_0 hrc0.1 hrc0.2.2 (by omega)⟩) (Nat.lt_succ_self _) s.heap [] hP hD hS ls (lv_sub hl [3, 4, 2, 1, 0] rfl)
  refine j_icmp_ne (tgt := 22) hx hb (by omega) dX11_ringsBy_15 (by decide) (fun q_4 => ?_) (fun q_4 => ?_)
  · refine lv_iconst (v := iI (0)) hx hb dX11_ringsBy_22 rfl ?_
    (have q9 := kr0; rw [er0, if_pos q_4] at q9; exact q9)
  · refine lv_iconst (v := iI (1)) hx hb dX11_ringsBy_18 rfl ?_
    refine lv_goto (tgt := 23) hx hb dX11_ringsBy_19 (by decide) ?_
    (have q9 := kr0; rw [er0, if_neg (fun q => q q_4)] at q9; exact q9)
