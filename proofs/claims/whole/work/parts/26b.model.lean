abbrev rmX11_drafts : Room := { frames := 0, cells := 0, slots := 0, locals := 0 }
set_option maxHeartbeats 4000000 in
set_option maxRecDepth 100000 in
theorem c_X11_drafts (l : Launch) (D : va_G) (cI cZ : ClassId) (z : jZT) (h0 h40 h41 h42 h43 h44 h45 h46 h47 h48 h49 h50 h51 h52 : Nat) (th tra tn nx tk pl va fl tc km ta le rm9 rc9 fa tr ro lo : Int) (td gd : Int → Int) (dr : Bool) : jMu (S := (Int → Int) × (Int → Int)) l yX11_drafts wsX11_drafts rmX11_drafts [.ref h0] D cI cZ z [(h0, .inr (11, [.int (iI (th)), .long (lI (tra)), .ref h40, .int (iI (tn)), .int (iI (nx)), .int (iI (tk)), .int (iI (pl)), .int (iI (va)), .int (iI (fl)), .ref h41, .ref h42, .ref h43, .ref h44, .ref h45, .ref h46, .ref h47, .ref h48, .ref h49, .ref h50, .ref h51, .int (iI (tc)), .ref h52, .int (iI (km)), .int (iI (bI dr)), .int (iI (ta)), .int (iI (le)), .int (iI (rm9)), .int (iI (rc9)), .int (iI (fa)), .int (iI (tr)), .int (iI (ro)), .int (iI (lo))])), (h41, .inl (cI, 18, .inl (aI td))), (h42, .inl (cI, 512, .inl (aI gd)))] (fun u => none) (fun u => (∀ j : Int, 0 ≤ j → j < 9 → u.1 (9 + j) = drV j) ∧ (∀ j : Int, 0 ≤ j → j < 9 → u.1 j = td j) ∧ (∀ j : Int, 0 ≤ j → j < 256 → u.2 (256 + j) = 0) ∧ (∀ j : Int, 0 ≤ j → j < 256 → u.2 j = gd j)) (fun u => [(h0, .inr (11, [.int (iI (th)), .long (lI (tra)), .ref h40, .int (iI (tn)), .int (iI (nx)), .int (iI (tk)), .int (iI (pl)), .int (iI (va)), .int (iI (fl)), .ref h41, .ref h42, .ref h43, .ref h44, .ref h45, .ref h46, .ref h47, .ref h48, .ref h49, .ref h50, .ref h51, .int (iI (tc)), .ref h52, .int (iI (km)), .int (iI (bI dr)), .int (iI (ta)), .int (iI (le)), .int (iI (rm9)), .int (iI (rc9)), .int (iI (fa)), .int (iI (tr)), .int (iI (ro)), .int (iI (lo))])), (h41, .inl (cI, 18, .inl (aI u.1))), (h42, .inl (cI, 512, .inl (aI u.2)))]) := by
  refine jMu_of (cc := cX11_drafts) (n := 2) (ret := none) (by decide) rfl (Nat.le_of_ble_eq_true rfl) ?_
  intro p e s m below meth c A ls args Q hQ F hA hZ hP hK hD hS hl
  obtain ⟨hx, hb, hr, hml, hown, hts, hlocks⟩ := F
  have hown : s.vm.findClass RX11 = some m.cls := hown
  have hl : lv_has ls 2 [(0, .ref h0)] := hl
  have L16 := hts (.fieldLink RX11 16 "TinMouseModel" "grid" "[I") (by decide +kernel)
  have L13 := hts (.fieldLink RX11 13 "TinMouseModel" "told" "[I") (by decide +kernel)
  have UX11 : ∀ w ∈ wsX110, w ∈ wsX11_drafts := fun w h => List.mem_cons_of_mem _ (List.mem_append_right _ h)
  refine lv_iconst (v := iI (0)) hx hb dX11_drafts_0 rfl ?_
  refine lv_istore_n (lv' := [(1, .int (iI (0))), (0, .ref h0)]) hx hb dX11_drafts_1 rfl hl (by decide) rfl (fun ls hl => ?_)
  have loop_2 : ∀ (fuel_2 : Nat) (i : Int) (td9 : Int → Int), ((0 ≤ i ∧ i ≤ 9) ∧ (∀ j : Int, 0 ≤ j → j < i → td9 (9 + j) = drV j) ∧ (∀ j : Int, 0 ≤ j → j < 9 → td9 j = td j)) → (9 - i).toNat < fuel_2 → ∀ (H : Heap) (locs : List Loc), va_P D vwCl [(h0, .inr (11, [.int (iI (th)), .long (lI (tra)), .ref h40, .int (iI (tn)), .int (iI (nx)), .int (iI (tk)), .int (iI (pl)), .int (iI (va)), .int (iI (fl)), .ref h41, .ref h42, .ref h43, .ref h44, .ref h45, .ref h46, .ref h47, .ref h48, .ref h49, .ref h50, .ref h51, .int (iI (tc)), .ref h52, .int (iI (km)), .int (iI (bI dr)), .int (iI (ta)), .int (iI (le)), .int (iI (rm9)), .int (iI (rc9)), .int (iI (fa)), .int (iI (tr)), .int (iI (ro)), .int (iI (lo))])), (h41, .inl (cI, 18, .inl (aI td9))), (h42, .inl (cI, 512, .inl (aI gd)))] H → va_D A [(h0, .inr (11, [.int (iI (th)), .long (lI (tra)), .ref h40, .int (iI (tn)), .int (iI (nx)), .int (iI (tk)), .int (iI (pl)), .int (iI (va)), .int (iI (fl)), .ref h41, .ref h42, .ref h43, .ref h44, .ref h45, .ref h46, .ref h47, .ref h48, .ref h49, .ref h50, .ref h51, .int (iI (tc)), .ref h52, .int (iI (km)), .int (iI (bI dr)), .int (iI (ta)), .int (iI (le)), .int (iI (rm9)), .int (iI (rc9)), .int (iI (fa)), .int (iI (tr)), .int (iI (ro)), .int (iI (lo))])), (h41, .inl (cI, 18, .inl (aI td9))), (h42, .inl (cI, 512, .inl (aI gd)))] → va_S A s.heap H locs → ∀ ls : Array Slot, lv_has ls 2 [(0, .ref h0), (1, .int (iI (i)))] → W p l e rmX11_drafts s m args below meth c H locs 0 0 Q (F0 m 2 ls []) := by
    intro fuel_2
    induction fuel_2 with
    | zero => intro i td9 hI9 hm9; exact absurd hm9 (Nat.not_lt_zero _)
    | succ fuel_2 ih_2 =>
      intro i td9 hI_2 hm_2 H locs hP hD hS ls hl
      obtain ⟨hi1, hi2, hi3⟩ := hI_2
      refine lv_iload_n hx hb dX11_drafts_2 rfl (lv_at hl 1 rfl) ?_
      refine lv_bipush (v := iI (9)) hx hb dX11_drafts_3 (by decide) ?_
      refine j_icmp_ge (tgt := 84) hx hb (by omega) dX11_drafts_5 (by decide) (fun c_5 => ?_) (fun c_5 => ?_)
      · refine lv_iconst (v := iI (0)) hx hb dX11_drafts_84 rfl ?_
        refine lv_istore_n (lv' := [(1, .int (iI (0))), (0, .ref h0)]) hx hb dX11_drafts_85 rfl hl (by decide) rfl (fun ls hl => ?_)
        have loop_86 : ∀ (fuel_86 : Nat) (k : Int) (gd9 : Int → Int), ((0 ≤ k ∧ k ≤ 256) ∧ (∀ j : Int, 0 ≤ j → j < k → gd9 (256 + j) = 0) ∧ (∀ j : Int, 0 ≤ j → j < 256 → gd9 j = gd j)) → (256 - k).toNat < fuel_86 → ∀ (H : Heap) (locs : List Loc), va_P D vwCl [(h0, .inr (11, [.int (iI (th)), .long (lI (tra)), .ref h40, .int (iI (tn)), .int (iI (nx)), .int (iI (tk)), .int (iI (pl)), .int (iI (va)), .int (iI (fl)), .ref h41, .ref h42, .ref h43, .ref h44, .ref h45, .ref h46, .ref h47, .ref h48, .ref h49, .ref h50, .ref h51, .int (iI (tc)), .ref h52, .int (iI (km)), .int (iI (bI dr)), .int (iI (ta)), .int (iI (le)), .int (iI (rm9)), .int (iI (rc9)), .int (iI (fa)), .int (iI (tr)), .int (iI (ro)), .int (iI (lo))])), (h41, .inl (cI, 18, .inl (aI td9))), (h42, .inl (cI, 512, .inl (aI gd9)))] H → va_D A [(h0, .inr (11, [.int (iI (th)), .long (lI (tra)), .ref h40, .int (iI (tn)), .int (iI (nx)), .int (iI (tk)), .int (iI (pl)), .int (iI (va)), .int (iI (fl)), .ref h41, .ref h42, .ref h43, .ref h44, .ref h45, .ref h46, .ref h47, .ref h48, .ref h49, .ref h50, .ref h51, .int (iI (tc)), .ref h52, .int (iI (km)), .int (iI (bI dr)), .int (iI (ta)), .int (iI (le)), .int (iI (rm9)), .int (iI (rc9)), .int (iI (fa)), .int (iI (tr)), .int (iI (ro)), .int (iI (lo))])), (h41, .inl (cI, 18, .inl (aI td9))), (h42, .inl (cI, 512, .inl (aI gd9)))] → va_S A s.heap H locs → ∀ ls : Array Slot, lv_has ls 2 [(0, .ref h0), (1, .int (iI (k)))] → W p l e rmX11_drafts s m args below meth c H locs 0 0 Q (F0 m 86 ls []) := by
          intro fuel_86
          induction fuel_86 with
          | zero => intro k gd9 hI9 hm9; exact absurd hm9 (Nat.not_lt_zero _)
          | succ fuel_86 ih_86 =>
            intro k gd9 hI_86 hm_86 H locs hP hD hS ls hl
            obtain ⟨hk1, hk2, hk3⟩ := hI_86
            refine lv_iload_n hx hb dX11_drafts_86 rfl (lv_at hl 1 rfl) ?_
            refine lv_sipush (v := iI (256)) hx hb dX11_drafts_87 (by decide) ?_
            refine j_icmp_ge (tgt := 110) hx hb (by omega) dX11_drafts_90 (by decide) (fun c_90 => ?_) (fun c_90 => ?_)
            · rw [hQ]; exact jm_vret (td9, gd9) hx hb hr hlocks hS hP rfl (by (try dsimp only); exact ⟨fun j h1 h2 => hi2 j h1 (by omega), hi3, fun j h1 h2 => hk2 j h1 (by omega), hk3⟩) dX11_drafts_110
            · refine lv_aload_n hx hb dX11_drafts_93 rfl (lv_at hl 0 rfl) ?_
              refine va_get (D := D) (ci := 11) (v := .ref h42) (C := RX11) (T := TX11) (N := 32) hx hb hts UX11 hown hK hP 0 rfl rfl 10 (by decide) L16 (fun _ h9 => h9) rfl dX11_drafts_94 ?_
              refine lv_sipush (v := iI (256)) hx hb dX11_drafts_97 (by decide) ?_
              refine lv_iload_n hx hb dX11_drafts_100 rfl (lv_at hl 1 rfl) ?_
              refine j_iadd hx hb dX11_drafts_101 ?_
              refine lv_iconst (v := iI (0)) hx hb dX11_drafts_102 rfl ?_
              refine j_iast hx hb hK hP hD hS 2 0 rfl rfl (by omega) dX11_drafts_103 (fun H locs hP hD hS => ?_)
              have hP : va_P D vwCl [(h0, .inr (11, [.int (iI (th)), .long (lI (tra)), .ref h40, .int (iI (tn)), .int (iI (nx)), .int (iI (tk)), .int (iI (pl)), .int (iI (va)), .int (iI (fl)), .ref h41, .ref h42, .ref h43, .ref h44, .ref h45, .ref h46, .ref h47, .ref h48, .ref h49, .ref h50, .ref h51, .int (iI (tc)), .ref h52, .int (iI (km)), .int (iI (bI dr)), .int (iI (ta)), .int (iI (le)), .int (iI (rm9)), .int (iI (rc9)), .int (iI (fa)), .int (iI (tr)), .int (iI (ro)), .int (iI (lo))])), (h41, .inl (cI, 18, .inl (aI td9))), (h42, .inl (cI, 512, .inl (aI (upZ gd9 (256 + k) 0))))] H := hP
              have hD : va_D A [(h0, .inr (11, [.int (iI (th)), .long (lI (tra)), .ref h40, .int (iI (tn)), .int (iI (nx)), .int (iI (tk)), .int (iI (pl)), .int (iI (va)), .int (iI (fl)), .ref h41, .ref h42, .ref h43, .ref h44, .ref h45, .ref h46, .ref h47, .ref h48, .ref h49, .ref h50, .ref h51, .int (iI (tc)), .ref h52, .int (iI (km)), .int (iI (bI dr)), .int (iI (ta)), .int (iI (le)), .int (iI (rm9)), .int (iI (rc9)), .int (iI (fa)), .int (iI (tr)), .int (iI (ro)), .int (iI (lo))])), (h41, .inl (cI, 18, .inl (aI td9))), (h42, .inl (cI, 512, .inl (aI (upZ gd9 (256 + k) 0))))] := hD
              refine lv_iinc (v := iI (k + 1)) (lv' := [(1, .int (iI (k + 1))), (0, .ref h0)]) hx hb dX11_drafts_104 hl (k := 1) rfl (iI_add _ _) (by decide) rfl (fun ls hl => ?_)
              refine lv_goto (tgt := 86) hx hb dX11_drafts_107 (by decide) ?_
              exact ih_86 ((k + 1)) ((upZ gd9 (256 + k) 0)) (by refine ⟨by omega, fun j h1 h2 => ?_, fun j h1 h2 => ?_⟩; (by_cases hj : j = k; (rw [hj, upZ_s]); (rw [upZ_n (by omega)]; exact hk2 j h1 (by omega))); (rw [upZ_n (by omega)]; exact hk3 j h1 h2)) (by omega) H locs hP hD hS ls (lv_sub hl [1, 0] rfl)
        exact loop_86 _ 0 gd (by exact ⟨by omega, fun j h1 h2 => by omega, fun j _ _ => rfl⟩) (Nat.lt_succ_self _) H locs hP hD hS ls (lv_sub hl [1, 0] rfl)
      · refine lv_aload_n hx hb dX11_drafts_8 rfl (lv_at hl 0 rfl) ?_
        refine va_get (D := D) (ci := 11) (v := .ref h41) (C := RX11) (T := TX11) (N := 32) hx hb hts UX11 hown hK hP 0 rfl rfl 9 (by decide) L13 (fun _ h9 => h9) rfl dX11_drafts_9 ?_
        refine lv_bipush (v := iI (9)) hx hb dX11_drafts_12 (by decide) ?_
        refine lv_iload_n hx hb dX11_drafts_14 rfl (lv_at hl 1 rfl) ?_
        refine j_iadd hx hb dX11_drafts_15 ?_
        refine lv_iload_n hx hb dX11_drafts_16 rfl (lv_at hl 1 rfl) ?_
        refine lv_iconst (v := iI (2)) hx hb dX11_drafts_17 rfl ?_
        obtain ⟨t_1, et_1⟩ : ∃ t : Int, t = if 2 ≤ i then (if ¬ i = 2 then (if ¬ i = 3 then (if ¬ i = 5 then (if ¬ i = 6 then (if ¬ i = 8 then 0 else 2) else (-9)) else 200) else 3) else 1) else 8 := ⟨_, rfl⟩
        have kt_1 : W p l e rmX11_drafts s m args below meth c H locs 0 0 Q (F0 m 77 ls [.int (iI (t_1)), .int (iI (9 + i)), .ref h41]) := by
          refine j_iast hx hb hK hP hD hS 1 0 rfl rfl (by omega) dX11_drafts_77 (fun H locs hP hD hS => ?_)
          have hP : va_P D vwCl [(h0, .inr (11, [.int (iI (th)), .long (lI (tra)), .ref h40, .int (iI (tn)), .int (iI (nx)), .int (iI (tk)), .int (iI (pl)), .int (iI (va)), .int (iI (fl)), .ref h41, .ref h42, .ref h43, .ref h44, .ref h45, .ref h46, .ref h47, .ref h48, .ref h49, .ref h50, .ref h51, .int (iI (tc)), .ref h52, .int (iI (km)), .int (iI (bI dr)), .int (iI (ta)), .int (iI (le)), .int (iI (rm9)), .int (iI (rc9)), .int (iI (fa)), .int (iI (tr)), .int (iI (ro)), .int (iI (lo))])), (h41, .inl (cI, 18, .inl (aI (upZ td9 (9 + i) t_1)))), (h42, .inl (cI, 512, .inl (aI gd)))] H := hP
          have hD : va_D A [(h0, .inr (11, [.int (iI (th)), .long (lI (tra)), .ref h40, .int (iI (tn)), .int (iI (nx)), .int (iI (tk)), .int (iI (pl)), .int (iI (va)), .int (iI (fl)), .ref h41, .ref h42, .ref h43, .ref h44, .ref h45, .ref h46, .ref h47, .ref h48, .ref h49, .ref h50, .ref h51, .int (iI (tc)), .ref h52, .int (iI (km)), .int (iI (bI dr)), .int (iI (ta)), .int (iI (le)), .int (iI (rm9)), .int (iI (rc9)), .int (iI (fa)), .int (iI (tr)), .int (iI (ro)), .int (iI (lo))])), (h41, .inl (cI, 18, .inl (aI (upZ td9 (9 + i) t_1)))), (h42, .inl (cI, 512, .inl (aI gd)))] := hD
          refine lv_iinc (v := iI (i + 1)) (lv' := [(1, .int (iI (i + 1))), (0, .ref h0)]) hx hb dX11_drafts_78 hl (k := 1) rfl (iI_add _ _) (by decide) rfl (fun ls hl => ?_)
          refine lv_goto (tgt := 2) hx hb dX11_drafts_81 (by decide) ?_
          exact ih_2 ((i + 1)) ((upZ td9 (9 + i) t_1)) (by refine ⟨by omega, fun j h1 h2 => ?_, fun j h1 h2 => ?_⟩; (by_cases hj : j = i; (rw [hj, upZ_s]; unfold drV; omega); (rw [upZ_n (by omega)]; exact hi2 j h1 (by omega))); (rw [upZ_n (by omega)]; exact hi3 j h1 h2)) (by omega) H locs hP hD hS ls (lv_sub hl [1, 0] rfl)
        refine j_icmp_ge (tgt := 26) hx hb (by omega) dX11_drafts_18 (by decide) (fun q_2 => ?_) (fun q_2 => ?_)
        · refine lv_iload_n hx hb dX11_drafts_26 rfl (lv_at hl 1 rfl) ?_
          refine lv_iconst (v := iI (2)) hx hb dX11_drafts_27 rfl ?_
          refine j_icmp_ne (tgt := 35) hx hb (by omega) dX11_drafts_28 (by decide) (fun q_3 => ?_) (fun q_3 => ?_)
          · refine lv_iload_n hx hb dX11_drafts_35 rfl (lv_at hl 1 rfl) ?_
            refine lv_iconst (v := iI (3)) hx hb dX11_drafts_36 rfl ?_
            refine j_icmp_ne (tgt := 44) hx hb (by omega) dX11_drafts_37 (by decide) (fun q_4 => ?_) (fun q_4 => ?_)
            · refine lv_iload_n hx hb dX11_drafts_44 rfl (lv_at hl 1 rfl) ?_
              refine lv_iconst (v := iI (5)) hx hb dX11_drafts_45 rfl ?_
              refine j_icmp_ne (tgt := 55) hx hb (by omega) dX11_drafts_46 (by decide) (fun q_5 => ?_) (fun q_5 => ?_)
              · refine lv_iload_n hx hb dX11_drafts_55 rfl (lv_at hl 1 rfl) ?_
                refine lv_bipush (v := iI (6)) hx hb dX11_drafts_56 (by decide) ?_
                refine j_icmp_ne (tgt := 66) hx hb (by omega) dX11_drafts_58 (by decide) (fun q_6 => ?_) (fun q_6 => ?_)
                · refine lv_iload_n hx hb dX11_drafts_66 rfl (lv_at hl 1 rfl) ?_
                  refine lv_bipush (v := iI (8)) hx hb dX11_drafts_67 (by decide) ?_
                  refine j_icmp_ne (tgt := 76) hx hb (by omega) dX11_drafts_69 (by decide) (fun q_7 => ?_) (fun q_7 => ?_)
                  · refine lv_iconst (v := iI (0)) hx hb dX11_drafts_76 rfl ?_
                    (have q9 := kt_1; rw [et_1, if_pos q_2, if_pos q_3, if_pos q_4, if_pos q_5, if_pos q_6, if_pos q_7] at q9; exact q9)
                  · refine lv_iconst (v := iI (2)) hx hb dX11_drafts_72 rfl ?_
                    refine lv_goto (tgt := 77) hx hb dX11_drafts_73 (by decide) ?_
                    (have q9 := kt_1; rw [et_1, if_pos q_2, if_pos q_3, if_pos q_4, if_pos q_5, if_pos q_6, if_neg (fun q => q q_7)] at q9; exact q9)
                · refine lv_bipush (v := iI (-9)) hx hb dX11_drafts_61 (by decide) ?_
                  refine lv_goto (tgt := 77) hx hb dX11_drafts_63 (by decide) ?_
                  (have q9 := kt_1; rw [et_1, if_pos q_2, if_pos q_3, if_pos q_4, if_pos q_5, if_neg (fun q => q q_6)] at q9; exact q9)
              · refine lv_sipush (v := iI (200)) hx hb dX11_drafts_49 (by decide) ?_
                refine lv_goto (tgt := 77) hx hb dX11_drafts_52 (by decide) ?_
                (have q9 := kt_1; rw [et_1, if_pos q_2, if_pos q_3, if_pos q_4, if_neg (fun q => q q_5)] at q9; exact q9)
            · refine lv_iconst (v := iI (3)) hx hb dX11_drafts_40 rfl ?_
              refine lv_goto (tgt := 77) hx hb dX11_drafts_41 (by decide) ?_
              (have q9 := kt_1; rw [et_1, if_pos q_2, if_pos q_3, if_neg (fun q => q q_4)] at q9; exact q9)
          · refine lv_iconst (v := iI (1)) hx hb dX11_drafts_31 rfl ?_
            refine lv_goto (tgt := 77) hx hb dX11_drafts_32 (by decide) ?_
            (have q9 := kt_1; rw [et_1, if_pos q_2, if_neg (fun q => q q_3)] at q9; exact q9)
        · refine lv_bipush (v := iI (8)) hx hb dX11_drafts_21 (by decide) ?_
          refine lv_goto (tgt := 77) hx hb dX11_drafts_23 (by decide) ?_
          (have q9 := kt_1; rw [et_1, if_neg q_2] at q9; exact q9)
  exact loop_2 _ 0 td (by exact ⟨by omega, fun j h1 h2 => by omega, fun j _ _ => rfl⟩) (Nat.lt_succ_self _) s.heap [] hP hD hS ls (lv_sub hl [1, 0] rfl)
theorem hsX11_number : yX11_number.cls ≠ "java/lang/invoke/MethodHandle" ∧ yX11_number.cls ≠ "java/lang/invoke/VarHandle" ∧ (parseMethodDescriptor yX11_number.desc).map (fun d => d.parameters.length) = some 2 := by decide +kernel
theorem hvX11_number : yX11_number.cls = RX11 ∧ yX11_number.cls ≠ "java/lang/invoke/MethodHandle" ∧ yX11_number.cls ≠ "java/lang/invoke/VarHandle" ∧ (parseMethodDescriptor yX11_number.desc).map (fun d => d.parameters.length) = some 2 := ⟨rfl, hsX11_number⟩
abbrev rmX11_draftCell : Room := { frames := 6, cells := 0, slots := 0, locals := 135 }
set_option maxHeartbeats 4000000 in
set_option maxRecDepth 100000 in
theorem c_X11_draftCell (l : Launch) (D : va_G) (cI cZ : ClassId) (z : jZT) (h0 h40 h41 h42 h43 h44 h45 h46 h47 h48 h49 h50 h51 h52 : Nat) (th tra tn nx tk pl va fl tc km ta le rm9 rc9 fa tr ro lo : Int) (tx td : Int → Int) (dr : Bool) (pp : Int) (hTx : TxtI tx tn) (hTok : TokI tx tn pp nx pl tk va) (hp : 0 ≤ pp ∧ pp ≤ tn) (hfl : -1 ≤ fl ∧ fl ≤ tn) (hTd : (0 ≤ td 9 ∧ td 9 ≤ 1000) ∧ (0 ≤ td 10 ∧ td 10 ≤ 1000)) : jMu (S := Int × Int × Int × Int × Int × Int × Int × Int) l yX11_draftCell wsX11_draftCell rmX11_draftCell [.ref h0] D cI cZ z [(h0, .inr (11, [.int (iI (th)), .long (lI (tra)), .ref h40, .int (iI (tn)), .int (iI (nx)), .int (iI (tk)), .int (iI (pl)), .int (iI (va)), .int (iI (fl)), .ref h41, .ref h42, .ref h43, .ref h44, .ref h45, .ref h46, .ref h47, .ref h48, .ref h49, .ref h50, .ref h51, .int (iI (tc)), .ref h52, .int (iI (km)), .int (iI (bI dr)), .int (iI (ta)), .int (iI (le)), .int (iI (rm9)), .int (iI (rc9)), .int (iI (fa)), .int (iI (tr)), .int (iI (ro)), .int (iI (lo))])), (h40, .inl (cI, 300, .inl (aI tx))), (h41, .inl (cI, 18, .inl (aI td)))] (fun u => some (.int (iI (u.2.2.2.2.2.2.2)))) (fun u => u.2.2.2.2.2.1 = (nuM tx tn fl pp 0 (td 9 - 1)).1 ∧ u.2.2.2.2.2.2.1 = (nuM tx tn (nuM tx tn fl pp 0 (td 9 - 1)).2.1 (nuM tx tn fl pp 0 (td 9 - 1)).2.2 0 (td 10 - 1)).1 ∧ u.2.2.2.2.1 = (nuM tx tn (nuM tx tn fl pp 0 (td 9 - 1)).2.1 (nuM tx tn fl pp 0 (td 9 - 1)).2.2 0 (td 10 - 1)).2.1 ∧ TokI tx tn (nuM tx tn (nuM tx tn fl pp 0 (td 9 - 1)).2.1 (nuM tx tn fl pp 0 (td 9 - 1)).2.2 0 (td 10 - 1)).2.2 u.1 u.2.2.1 u.2.1 u.2.2.2.1 ∧ u.2.2.2.2.2.2.2 = td 9 * u.2.2.2.2.2.2.1 + u.2.2.2.2.2.1) (fun u => [(h0, .inr (11, [.int (iI (th)), .long (lI (tra)), .ref h40, .int (iI (tn)), .int (iI (u.1)), .int (iI (u.2.1)), .int (iI (u.2.2.1)), .int (iI (u.2.2.2.1)), .int (iI (u.2.2.2.2.1)), .ref h41, .ref h42, .ref h43, .ref h44, .ref h45, .ref h46, .ref h47, .ref h48, .ref h49, .ref h50, .ref h51, .int (iI (tc)), .ref h52, .int (iI (km)), .int (iI (bI dr)), .int (iI (ta)), .int (iI (le)), .int (iI (rm9)), .int (iI (rc9)), .int (iI (fa)), .int (iI (tr)), .int (iI (ro)), .int (iI (lo))])), (h40, .inl (cI, 300, .inl (aI tx))), (h41, .inl (cI, 18, .inl (aI td)))]) := by
  refine jMu_of (cc := cX11_draftCell) (n := 3) (ret := (some .int)) (by decide) rfl (Nat.le_of_ble_eq_true rfl) ?_
  intro p e s m below meth c A ls args Q hQ F hA hZ hP hK hD hS hl
  obtain ⟨hx, hb, hr, hml, hown, hts, hlocks⟩ := F
  have hown : s.vm.findClass RX11 = some m.cls := hown
  have hl : lv_has ls 3 [(0, .ref h0)] := hl
  have L13 := hts (.fieldLink RX11 13 "TinMouseModel" "told" "[I") (by decide +kernel)
  have UX11 : ∀ w ∈ wsX110, w ∈ wsX11_draftCell := fun w h => List.mem_cons_of_mem _ (List.mem_append_right _ h)
  have hn1 := nuM_rng (tb := tx) (lo := 0) (hi := td 9 - 1) hp (show fl ≤ tn by omega)
  refine lv_aload_n hx hb dX11_draftCell_0 rfl (lv_at hl 0 rfl) ?_
  refine lv_iconst (v := iI (0)) hx hb dX11_draftCell_1 rfl ?_
  refine lv_aload_n hx hb dX11_draftCell_2 rfl (lv_at hl 0 rfl) ?_
  refine va_get (D := D) (ci := 11) (v := .ref h41) (C := RX11) (T := TX11) (N := 32) hx hb hts UX11 hown hK hP 0 rfl rfl 9 (by decide) L13 (fun _ h9 => h9) rfl dX11_draftCell_3 ?_
  refine lv_bipush (v := iI (9)) hx hb dX11_draftCell_6 (by decide) ?_
  refine j_iald hx hb hK hP 2 0 rfl rfl (by omega) dX11_draftCell_8 ?_
  refine lv_iconst (v := iI (1)) hx hb dX11_draftCell_9 rfl ?_
  refine j_isub hx hb dX11_draftCell_10 ?_
  refine j_mui (va_runV (As := [.int (iI (0)), .int (iI ((td 9) - 1))]) (rest := []) ⟨hx, hb, hml, hown, hts⟩ (c_X11_number l D cI cZ z h0 h40 h41 h42 h43 h44 h45 h46 h47 h48 h49 h50 h51 h52 0 ((td 9) - 1) th tra tn nx tk pl va fl tc km ta le rm9 rc9 fa tr ro lo tx dr pp (by first | assumption | omega) (by first | assumption | omega) (by first | assumption | omega) (by first | assumption | omega) (by first | assumption | omega) (by first | assumption | omega) s.heap.size) (cwV 2 hts gX11_draftCell_X11_number rfl rfl rfl hvX11_number ⟨Nat.le_of_ble_eq_true rfl, Nat.le_of_ble_eq_true rfl⟩) (j_preV hP hD hK hS hZ hA [0, 1] rfl rfl 0 rfl rfl) rfl rfl hl.1 rfl (lv_room (Nat.le_of_ble_eq_true rfl)) dX11_draftCell_11 ⟨Nat.zero_le _, Nat.zero_le _⟩) hP hD hS hA [0, 1] rfl (fun _ => rfl) (fun u_9 H locs hw_11 hP hD hS => ?_)
  obtain ⟨nx2_1, tk2_2, pl2_3, va2_4, fa2, ra⟩ := u_9
  dsimp only at hw_11
  have hP : va_P D vwCl [(h0, .inr (11, [.int (iI (th)), .long (lI (tra)), .ref h40, .int (iI (tn)), .int (iI (nx2_1)), .int (iI (tk2_2)), .int (iI (pl2_3)), .int (iI (va2_4)), .int (iI (fa2)), .ref h41, .ref h42, .ref h43, .ref h44, .ref h45, .ref h46, .ref h47, .ref h48, .ref h49, .ref h50, .ref h51, .int (iI (tc)), .ref h52, .int (iI (km)), .int (iI (bI dr)), .int (iI (ta)), .int (iI (le)), .int (iI (rm9)), .int (iI (rc9)), .int (iI (fa)), .int (iI (tr)), .int (iI (ro)), .int (iI (lo))])), (h40, .inl (cI, 300, .inl (aI tx))), (h41, .inl (cI, 18, .inl (aI td)))] H := hP
  have hD : va_D A [(h0, .inr (11, [.int (iI (th)), .long (lI (tra)), .ref h40, .int (iI (tn)), .int (iI (nx2_1)), .int (iI (tk2_2)), .int (iI (pl2_3)), .int (iI (va2_4)), .int (iI (fa2)), .ref h41, .ref h42, .ref h43, .ref h44, .ref h45, .ref h46, .ref h47, .ref h48, .ref h49, .ref h50, .ref h51, .int (iI (tc)), .ref h52, .int (iI (km)), .int (iI (bI dr)), .int (iI (ta)), .int (iI (le)), .int (iI (rm9)), .int (iI (rc9)), .int (iI (fa)), .int (iI (tr)), .int (iI (ro)), .int (iI (lo))])), (h40, .inl (cI, 300, .inl (aI tx))), (h41, .inl (cI, 18, .inl (aI td)))] := hD
  refine lv_istore_n (lv' := [(1, .int (iI (ra))), (0, .ref h0)]) hx hb dX11_draftCell_14 rfl hl (by decide) rfl (fun ls hl => ?_)
  refine lv_aload_n hx hb dX11_draftCell_15 rfl (lv_at hl 1 rfl) ?_
  refine lv_iconst (v := iI (0)) hx hb dX11_draftCell_16 rfl ?_
  refine lv_aload_n hx hb dX11_draftCell_17 rfl (lv_at hl 1 rfl) ?_
  refine va_get (D := D) (ci := 11) (v := .ref h41) (C := RX11) (T := TX11) (N := 32) hx hb hts UX11 hown hK hP 0 rfl rfl 9 (by decide) L13 (fun _ h9 => h9) rfl dX11_draftCell_18 ?_
  refine lv_bipush (v := iI (10)) hx hb dX11_draftCell_21 (by decide) ?_
  refine j_iald hx hb hK hP 2 0 rfl rfl (by omega) dX11_draftCell_23 ?_
  refine lv_iconst (v := iI (1)) hx hb dX11_draftCell_24 rfl ?_
  refine j_isub hx hb dX11_draftCell_25 ?_
  refine j_mui (va_runV (As := [.int (iI (0)), .int (iI ((td 10) - 1))]) (rest := []) ⟨hx, hb, hml, hown, hts⟩ (c_X11_number l D cI cZ z h0 h40 h41 h42 h43 h44 h45 h46 h47 h48 h49 h50 h51 h52 0 ((td 10) - 1) th tra tn nx2_1 tk2_2 pl2_3 va2_4 fa2 tc km ta le rm9 rc9 fa tr ro lo tx dr ((nuM tx tn fl pp 0 (td 9 - 1)).2.2) (by first | assumption | omega) (by exact hw_11.2.2) (by exact hn1.1) (by have hn9 := hw_11.2.1; have hnf := nuM_fl (tb := tx) (tn := tn) (fl := fl) (p := pp) (lo := 0) (hi := td 9 - 1) hp (by omega); omega) (by first | assumption | omega) (by first | assumption | omega) H.size) (cwV 2 hts gX11_draftCell_X11_number rfl rfl rfl hvX11_number ⟨Nat.le_of_ble_eq_true rfl, Nat.le_of_ble_eq_true rfl⟩) (j_preV hP hD hK hS hZ hA [0, 1] rfl rfl 0 rfl rfl) rfl rfl hl.1 rfl (lv_room (Nat.le_of_ble_eq_true rfl)) dX11_draftCell_26 ⟨Nat.zero_le _, Nat.zero_le _⟩) hP hD hS hA [0, 1] rfl (fun _ => rfl) (fun u_9 H locs hw_26 hP hD hS => ?_)
  obtain ⟨nx2_5, tk2_6, pl2_7, va2_8, fb2, rb⟩ := u_9
  dsimp only at hw_26
  have hP : va_P D vwCl [(h0, .inr (11, [.int (iI (th)), .long (lI (tra)), .ref h40, .int (iI (tn)), .int (iI (nx2_5)), .int (iI (tk2_6)), .int (iI (pl2_7)), .int (iI (va2_8)), .int (iI (fb2)), .ref h41, .ref h42, .ref h43, .ref h44, .ref h45, .ref h46, .ref h47, .ref h48, .ref h49, .ref h50, .ref h51, .int (iI (tc)), .ref h52, .int (iI (km)), .int (iI (bI dr)), .int (iI (ta)), .int (iI (le)), .int (iI (rm9)), .int (iI (rc9)), .int (iI (fa)), .int (iI (tr)), .int (iI (ro)), .int (iI (lo))])), (h40, .inl (cI, 300, .inl (aI tx))), (h41, .inl (cI, 18, .inl (aI td)))] H := hP
  have hD : va_D A [(h0, .inr (11, [.int (iI (th)), .long (lI (tra)), .ref h40, .int (iI (tn)), .int (iI (nx2_5)), .int (iI (tk2_6)), .int (iI (pl2_7)), .int (iI (va2_8)), .int (iI (fb2)), .ref h41, .ref h42, .ref h43, .ref h44, .ref h45, .ref h46, .ref h47, .ref h48, .ref h49, .ref h50, .ref h51, .int (iI (tc)), .ref h52, .int (iI (km)), .int (iI (bI dr)), .int (iI (ta)), .int (iI (le)), .int (iI (rm9)), .int (iI (rc9)), .int (iI (fa)), .int (iI (tr)), .int (iI (ro)), .int (iI (lo))])), (h40, .inl (cI, 300, .inl (aI tx))), (h41, .inl (cI, 18, .inl (aI td)))] := hD
  refine lv_istore_n (lv' := [(2, .int (iI (rb))), (1, .int (iI (ra))), (0, .ref h0)]) hx hb dX11_draftCell_29 rfl hl (by decide) rfl (fun ls hl => ?_)
  refine lv_aload_n hx hb dX11_draftCell_30 rfl (lv_at hl 2 rfl) ?_
  refine va_get (D := D) (ci := 11) (v := .ref h41) (C := RX11) (T := TX11) (N := 32) hx hb hts UX11 hown hK hP 0 rfl rfl 9 (by decide) L13 (fun _ h9 => h9) rfl dX11_draftCell_31 ?_
  refine lv_bipush (v := iI (9)) hx hb dX11_draftCell_34 (by decide) ?_
  refine j_iald hx hb hK hP 2 0 rfl rfl (by omega) dX11_draftCell_36 ?_
  refine lv_iload_n hx hb dX11_draftCell_37 rfl (lv_at hl 0 rfl) ?_
  refine j_imul hx hb dX11_draftCell_38 ?_
  refine lv_iload_n hx hb dX11_draftCell_39 rfl (lv_at hl 1 rfl) ?_
  refine j_iadd hx hb dX11_draftCell_40 ?_
  rw [hQ]; exact jm_iret (nx2_5, tk2_6, pl2_7, va2_8, fb2, ra, rb, ((td 9) * rb) + ra) hx hb hr hlocks hS hP rfl (by (try dsimp only); obtain ⟨a1, a2, a3⟩ := hw_11; obtain ⟨b1, b2, b3⟩ := hw_26; rw [a2] at b1 b2 b3; exact ⟨a1, b1, b2, b3, rfl⟩) dX11_draftCell_41
abbrev rmX11_adopts : Room := { frames := 1, cells := 0, slots := 0, locals := 21 }
set_option maxHeartbeats 4000000 in
set_option maxRecDepth 100000 in
theorem c_X11_adopts (l : Launch) (D : va_G) (cI cZ : ClassId) (z : jZT) (h0 h40 h41 h42 h43 h44 h45 h46 h47 h48 h49 h50 h51 h52 : Nat) (th tra tn nx tk pl va fl tc km ta le rm9 rc9 fa tr ro lo : Int) (td gd sa ik : Int → Int) (dr : Bool) (hg3 : ∀ c : Int, 0 ≤ c → c < 256 → 0 ≤ gd (256 + c) ∧ gd (256 + c) ≤ 3) (hW9 : 3 ≤ td 9 ∧ td 9 ≤ 16) (hs9 : 0 ≤ td 16 ∧ td 16 < 256) : jMu (S := (Int → Int) × (Int → Int) × (Int → Int) × (Int → Int)) l yX11_adopts wsX11_adopts rmX11_adopts [.ref h0] D cI cZ z [(h0, .inr (11, [.int (iI (th)), .long (lI (tra)), .ref h40, .int (iI (tn)), .int (iI (nx)), .int (iI (tk)), .int (iI (pl)), .int (iI (va)), .int (iI (fl)), .ref h41, .ref h42, .ref h43, .ref h44, .ref h45, .ref h46, .ref h47, .ref h48, .ref h49, .ref h50, .ref h51, .int (iI (tc)), .ref h52, .int (iI (km)), .int (iI (bI dr)), .int (iI (ta)), .int (iI (le)), .int (iI (rm9)), .int (iI (rc9)), .int (iI (fa)), .int (iI (tr)), .int (iI (ro)), .int (iI (lo))])), (h41, .inl (cI, 18, .inl (aI td))), (h42, .inl (cI, 512, .inl (aI gd))), (h43, .inl (cI, 12, .inl (aI sa))), (h45, .inl (cZ, 2, .inl (aI ik)))] (fun u => none) (fun u => (∀ j : Int, 0 ≤ j → j < 9 → u.1 j = td (9 + j)) ∧ (∀ c : Int, 0 ≤ c → c < 256 → u.2.1 c = hO (gd (256 + c))) ∧ (u.2.2.2 0 = 0 ∧ u.2.2.2 1 = 0) ∧ (u.2.2.1 0 = u.1 7 % u.1 0 ∧ u.2.2.1 1 = u.1 7 / u.1 0 ∧ u.2.2.1 2 = u.1 8 ∧ u.2.2.1 3 = 0 ∧ u.2.2.1 4 = u.1 5 ∧ (∀ j : Int, 5 ≤ j → j < 9 → u.2.2.1 j = 0) ∧ u.2.2.1 9 = -9 ∧ u.2.2.1 10 = 0 ∧ u.2.2.1 11 = sa 11)) (fun u => [(h0, .inr (11, [.int (iI (th)), .long (lI (tra)), .ref h40, .int (iI (tn)), .int (iI (nx)), .int (iI (tk)), .int (iI (pl)), .int (iI (va)), .int (iI (fl)), .ref h41, .ref h42, .ref h43, .ref h44, .ref h45, .ref h46, .ref h47, .ref h48, .ref h49, .ref h50, .ref h51, .int (iI (0)), .ref h52, .int (iI (km)), .int (iI (bI dr)), .int (iI (ta)), .int (iI (le)), .int (iI (rm9)), .int (iI (rc9)), .int (iI (fa)), .int (iI (tr)), .int (iI (ro)), .int (iI (lo))])), (h41, .inl (cI, 18, .inl (aI u.1))), (h42, .inl (cI, 512, .inl (aI u.2.1))), (h43, .inl (cI, 12, .inl (aI u.2.2.1))), (h45, .inl (cZ, 2, .inl (aI u.2.2.2)))]) := by
  refine jMu_of (cc := cX11_adopts) (n := 2) (ret := none) (by decide) rfl (Nat.le_of_ble_eq_true rfl) ?_
  intro p e s m below meth c A ls args Q hQ F hA hZ hP hK hD hS hl
  obtain ⟨hx, hb, hr, hml, hown, hts, hlocks⟩ := F
  have hown : s.vm.findClass RX11 = some m.cls := hown
  have hl : lv_has ls 2 [(0, .ref h0)] := hl
  have L125 := hts (.fieldLink RX11 125 "TinMouseModel" "tracks" "I") (by decide +kernel)
  have L25 := hts (.fieldLink RX11 25 "TinMouseModel" "isKept" "[Z") (by decide +kernel)
  have L16 := hts (.fieldLink RX11 16 "TinMouseModel" "grid" "[I") (by decide +kernel)
  have L13 := hts (.fieldLink RX11 13 "TinMouseModel" "told" "[I") (by decide +kernel)
  have UX11 : ∀ w ∈ wsX110, w ∈ wsX11_adopts := fun w h => List.mem_cons_of_mem _ (List.mem_append_right _ h)
  refine lv_iconst (v := iI (0)) hx hb dX11_adopts_0 rfl ?_
  refine lv_istore_n (lv' := [(1, .int (iI (0))), (0, .ref h0)]) hx hb dX11_adopts_1 rfl hl (by decide) rfl (fun ls hl => ?_)
  have loop_2 : ∀ (fuel_2 : Nat) (i : Int) (td9 : Int → Int), ((0 ≤ i ∧ i ≤ 9) ∧ (∀ j : Int, 0 ≤ j → j < i → td9 j = td (9 + j)) ∧ (∀ j : Int, 9 ≤ j → td9 j = td j)) → (9 - i).toNat < fuel_2 → ∀ (H : Heap) (locs : List Loc), va_P D vwCl [(h0, .inr (11, [.int (iI (th)), .long (lI (tra)), .ref h40, .int (iI (tn)), .int (iI (nx)), .int (iI (tk)), .int (iI (pl)), .int (iI (va)), .int (iI (fl)), .ref h41, .ref h42, .ref h43, .ref h44, .ref h45, .ref h46, .ref h47, .ref h48, .ref h49, .ref h50, .ref h51, .int (iI (tc)), .ref h52, .int (iI (km)), .int (iI (bI dr)), .int (iI (ta)), .int (iI (le)), .int (iI (rm9)), .int (iI (rc9)), .int (iI (fa)), .int (iI (tr)), .int (iI (ro)), .int (iI (lo))])), (h41, .inl (cI, 18, .inl (aI td9))), (h42, .inl (cI, 512, .inl (aI gd))), (h43, .inl (cI, 12, .inl (aI sa))), (h45, .inl (cZ, 2, .inl (aI ik)))] H → va_D A [(h0, .inr (11, [.int (iI (th)), .long (lI (tra)), .ref h40, .int (iI (tn)), .int (iI (nx)), .int (iI (tk)), .int (iI (pl)), .int (iI (va)), .int (iI (fl)), .ref h41, .ref h42, .ref h43, .ref h44, .ref h45, .ref h46, .ref h47, .ref h48, .ref h49, .ref h50, .ref h51, .int (iI (tc)), .ref h52, .int (iI (km)), .int (iI (bI dr)), .int (iI (ta)), .int (iI (le)), .int (iI (rm9)), .int (iI (rc9)), .int (iI (fa)), .int (iI (tr)), .int (iI (ro)), .int (iI (lo))])), (h41, .inl (cI, 18, .inl (aI td9))), (h42, .inl (cI, 512, .inl (aI gd))), (h43, .inl (cI, 12, .inl (aI sa))), (h45, .inl (cZ, 2, .inl (aI ik)))] → va_S A s.heap H locs → ∀ ls : Array Slot, lv_has ls 2 [(0, .ref h0), (1, .int (iI (i)))] → W p l e rmX11_adopts s m args below meth c H locs 0 0 Q (F0 m 2 ls []) := by
    intro fuel_2
    induction fuel_2 with
    | zero => intro i td9 hI9 hm9; exact absurd hm9 (Nat.not_lt_zero _)
    | succ fuel_2 ih_2 =>
      intro i td9 hI_2 hm_2 H locs hP hD hS ls hl
      obtain ⟨hi1, hi2, hi3⟩ := hI_2
      refine lv_iload_n hx hb dX11_adopts_2 rfl (lv_at hl 1 rfl) ?_
      refine lv_bipush (v := iI (9)) hx hb dX11_adopts_3 (by decide) ?_
      refine j_icmp_ge (tgt := 29) hx hb (by omega) dX11_adopts_5 (by decide) (fun c_5 => ?_) (fun c_5 => ?_)
      · refine lv_iconst (v := iI (0)) hx hb dX11_adopts_29 rfl ?_
        refine lv_istore_n (lv' := [(1, .int (iI (0))), (0, .ref h0)]) hx hb dX11_adopts_30 rfl hl (by decide) rfl (fun ls hl => ?_)
        have loop_31 : ∀ (fuel_31 : Nat) (k : Int) (gd9 : Int → Int), ((0 ≤ k ∧ k ≤ 256) ∧ (∀ j : Int, 0 ≤ j → j < k → gd9 j = hO (gd (256 + j))) ∧ (∀ j : Int, 256 ≤ j → gd9 j = gd j)) → (256 - k).toNat < fuel_31 → ∀ (H : Heap) (locs : List Loc), va_P D vwCl [(h0, .inr (11, [.int (iI (th)), .long (lI (tra)), .ref h40, .int (iI (tn)), .int (iI (nx)), .int (iI (tk)), .int (iI (pl)), .int (iI (va)), .int (iI (fl)), .ref h41, .ref h42, .ref h43, .ref h44, .ref h45, .ref h46, .ref h47, .ref h48, .ref h49, .ref h50, .ref h51, .int (iI (tc)), .ref h52, .int (iI (km)), .int (iI (bI dr)), .int (iI (ta)), .int (iI (le)), .int (iI (rm9)), .int (iI (rc9)), .int (iI (fa)), .int (iI (tr)), .int (iI (ro)), .int (iI (lo))])), (h41, .inl (cI, 18, .inl (aI td9))), (h42, .inl (cI, 512, .inl (aI gd9))), (h43, .inl (cI, 12, .inl (aI sa))), (h45, .inl (cZ, 2, .inl (aI ik)))] H → va_D A [(h0, .inr (11, [.int (iI (th)), .long (lI (tra)), .ref h40, .int (iI (tn)), .int (iI (nx)), .int (iI (tk)), .int (iI (pl)), .int (iI (va)), .int (iI (fl)), .ref h41, .ref h42, .ref h43, .ref h44, .ref h45, .ref h46, .ref h47, .ref h48, .ref h49, .ref h50, .ref h51, .int (iI (tc)), .ref h52, .int (iI (km)), .int (iI (bI dr)), .int (iI (ta)), .int (iI (le)), .int (iI (rm9)), .int (iI (rc9)), .int (iI (fa)), .int (iI (tr)), .int (iI (ro)), .int (iI (lo))])), (h41, .inl (cI, 18, .inl (aI td9))), (h42, .inl (cI, 512, .inl (aI gd9))), (h43, .inl (cI, 12, .inl (aI sa))), (h45, .inl (cZ, 2, .inl (aI ik)))] → va_S A s.heap H locs → ∀ ls : Array Slot, lv_has ls 2 [(0, .ref h0), (1, .int (iI (k)))] → W p l e rmX11_adopts s m args below meth c H locs 0 0 Q (F0 m 31 ls []) := by
          intro fuel_31
          induction fuel_31 with
          | zero => intro k gd9 hI9 hm9; exact absurd hm9 (Nat.not_lt_zero _)
          | succ fuel_31 ih_31 =>
            intro k gd9 hI_31 hm_31 H locs hP hD hS ls hl
            obtain ⟨hk1, hk2, hk3⟩ := hI_31
            refine lv_iload_n hx hb dX11_adopts_31 rfl (lv_at hl 1 rfl) ?_
            refine lv_sipush (v := iI (256)) hx hb dX11_adopts_32 (by decide) ?_
            refine j_icmp_ge (tgt := 79) hx hb (by omega) dX11_adopts_35 (by decide) (fun c_35 => ?_) (fun c_35 => ?_)
            · refine lv_aload_n hx hb dX11_adopts_79 rfl (lv_at hl 0 rfl) ?_
              refine lv_iconst (v := iI (0)) hx hb dX11_adopts_80 rfl ?_
              refine va_put (D := D) (ci := 11) (v := .int (iI (0))) (ty := .int) (C := RX11) (T := TX11) (N := 32) hx hb hts UX11 tyX11 tyX11_ok nmX11 hown hK hP hD hS 0 rfl rfl 20 (by decide) L125 (fun _ h9 => h9) rfl rfl rfl rfl (Nat.le_of_ble_eq_true rfl) dX11_adopts_81 (fun H locs hP hD hS => ?_)
              have hP : va_P D vwCl [(h0, .inr (11, [.int (iI (th)), .long (lI (tra)), .ref h40, .int (iI (tn)), .int (iI (nx)), .int (iI (tk)), .int (iI (pl)), .int (iI (va)), .int (iI (fl)), .ref h41, .ref h42, .ref h43, .ref h44, .ref h45, .ref h46, .ref h47, .ref h48, .ref h49, .ref h50, .ref h51, .int (iI (0)), .ref h52, .int (iI (km)), .int (iI (bI dr)), .int (iI (ta)), .int (iI (le)), .int (iI (rm9)), .int (iI (rc9)), .int (iI (fa)), .int (iI (tr)), .int (iI (ro)), .int (iI (lo))])), (h41, .inl (cI, 18, .inl (aI td9))), (h42, .inl (cI, 512, .inl (aI gd9))), (h43, .inl (cI, 12, .inl (aI sa))), (h45, .inl (cZ, 2, .inl (aI ik)))] H := hP
              have hD : va_D A [(h0, .inr (11, [.int (iI (th)), .long (lI (tra)), .ref h40, .int (iI (tn)), .int (iI (nx)), .int (iI (tk)), .int (iI (pl)), .int (iI (va)), .int (iI (fl)), .ref h41, .ref h42, .ref h43, .ref h44, .ref h45, .ref h46, .ref h47, .ref h48, .ref h49, .ref h50, .ref h51, .int (iI (0)), .ref h52, .int (iI (km)), .int (iI (bI dr)), .int (iI (ta)), .int (iI (le)), .int (iI (rm9)), .int (iI (rc9)), .int (iI (fa)), .int (iI (tr)), .int (iI (ro)), .int (iI (lo))])), (h41, .inl (cI, 18, .inl (aI td9))), (h42, .inl (cI, 512, .inl (aI gd9))), (h43, .inl (cI, 12, .inl (aI sa))), (h45, .inl (cZ, 2, .inl (aI ik)))] := hD
              refine lv_aload_n hx hb dX11_adopts_84 rfl (lv_at hl 0 rfl) ?_
              refine va_get (D := D) (ci := 11) (v := .ref h45) (C := RX11) (T := TX11) (N := 32) hx hb hts UX11 hown hK hP 0 rfl rfl 13 (by decide) L25 (fun _ h9 => h9) rfl dX11_adopts_85 ?_
              refine lv_iconst (v := iI (0)) hx hb dX11_adopts_88 rfl ?_
              refine lv_iconst (v := iI (0)) hx hb dX11_adopts_89 rfl ?_
              refine j_zast hx hb hK hP hD hS 4 1 rfl rfl (by rfl) (by omega) dX11_adopts_90 (fun H locs hP hD hS => ?_)
              have hP : va_P D vwCl [(h0, .inr (11, [.int (iI (th)), .long (lI (tra)), .ref h40, .int (iI (tn)), .int (iI (nx)), .int (iI (tk)), .int (iI (pl)), .int (iI (va)), .int (iI (fl)), .ref h41, .ref h42, .ref h43, .ref h44, .ref h45, .ref h46, .ref h47, .ref h48, .ref h49, .ref h50, .ref h51, .int (iI (0)), .ref h52, .int (iI (km)), .int (iI (bI dr)), .int (iI (ta)), .int (iI (le)), .int (iI (rm9)), .int (iI (rc9)), .int (iI (fa)), .int (iI (tr)), .int (iI (ro)), .int (iI (lo))])), (h41, .inl (cI, 18, .inl (aI td9))), (h42, .inl (cI, 512, .inl (aI gd9))), (h43, .inl (cI, 12, .inl (aI sa))), (h45, .inl (cZ, 2, .inl (aI (upZ ik 0 0))))] H := hP
              have hD : va_D A [(h0, .inr (11, [.int (iI (th)), .long (lI (tra)), .ref h40, .int (iI (tn)), .int (iI (nx)), .int (iI (tk)), .int (iI (pl)), .int (iI (va)), .int (iI (fl)), .ref h41, .ref h42, .ref h43, .ref h44, .ref h45, .ref h46, .ref h47, .ref h48, .ref h49, .ref h50, .ref h51, .int (iI (0)), .ref h52, .int (iI (km)), .int (iI (bI dr)), .int (iI (ta)), .int (iI (le)), .int (iI (rm9)), .int (iI (rc9)), .int (iI (fa)), .int (iI (tr)), .int (iI (ro)), .int (iI (lo))])), (h41, .inl (cI, 18, .inl (aI td9))), (h42, .inl (cI, 512, .inl (aI gd9))), (h43, .inl (cI, 12, .inl (aI sa))), (h45, .inl (cZ, 2, .inl (aI (upZ ik 0 0))))] := hD
              refine lv_aload_n hx hb dX11_adopts_91 rfl (lv_at hl 0 rfl) ?_
              refine va_get (D := D) (ci := 11) (v := .ref h45) (C := RX11) (T := TX11) (N := 32) hx hb hts UX11 hown hK hP 0 rfl rfl 13 (by decide) L25 (fun _ h9 => h9) rfl dX11_adopts_92 ?_
              refine lv_iconst (v := iI (1)) hx hb dX11_adopts_95 rfl ?_
              refine lv_iconst (v := iI (0)) hx hb dX11_adopts_96 rfl ?_
              refine j_zast hx hb hK hP hD hS 4 1 rfl rfl (by rfl) (by omega) dX11_adopts_97 (fun H locs hP hD hS => ?_)
              have hP : va_P D vwCl [(h0, .inr (11, [.int (iI (th)), .long (lI (tra)), .ref h40, .int (iI (tn)), .int (iI (nx)), .int (iI (tk)), .int (iI (pl)), .int (iI (va)), .int (iI (fl)), .ref h41, .ref h42, .ref h43, .ref h44, .ref h45, .ref h46, .ref h47, .ref h48, .ref h49, .ref h50, .ref h51, .int (iI (0)), .ref h52, .int (iI (km)), .int (iI (bI dr)), .int (iI (ta)), .int (iI (le)), .int (iI (rm9)), .int (iI (rc9)), .int (iI (fa)), .int (iI (tr)), .int (iI (ro)), .int (iI (lo))])), (h41, .inl (cI, 18, .inl (aI td9))), (h42, .inl (cI, 512, .inl (aI gd9))), (h43, .inl (cI, 12, .inl (aI sa))), (h45, .inl (cZ, 2, .inl (aI (upZ (upZ ik 0 0) 1 0))))] H := hP
              have hD : va_D A [(h0, .inr (11, [.int (iI (th)), .long (lI (tra)), .ref h40, .int (iI (tn)), .int (iI (nx)), .int (iI (tk)), .int (iI (pl)), .int (iI (va)), .int (iI (fl)), .ref h41, .ref h42, .ref h43, .ref h44, .ref h45, .ref h46, .ref h47, .ref h48, .ref h49, .ref h50, .ref h51, .int (iI (0)), .ref h52, .int (iI (km)), .int (iI (bI dr)), .int (iI (ta)), .int (iI (le)), .int (iI (rm9)), .int (iI (rc9)), .int (iI (fa)), .int (iI (tr)), .int (iI (ro)), .int (iI (lo))])), (h41, .inl (cI, 18, .inl (aI td9))), (h42, .inl (cI, 512, .inl (aI gd9))), (h43, .inl (cI, 12, .inl (aI sa))), (h45, .inl (cZ, 2, .inl (aI (upZ (upZ ik 0 0) 1 0))))] := hD
              have t0 : td9 0 = td 9 := hi2 0 (by omega) (by omega)
              have t7 : td9 7 = td 16 := hi2 7 (by omega) (by omega)
              refine lv_aload_n hx hb dX11_adopts_98 rfl (lv_at hl 0 rfl) ?_
              refine j_muv (va_runV (As := []) (rest := []) ⟨hx, hb, hml, hown, hts⟩ (c_X11_begins l D cI cZ z h0 h40 h41 h42 h43 h44 h45 h46 h47 h48 h49 h50 h51 h52 th tra tn nx tk pl va fl 0 km ta le rm9 rc9 fa tr ro lo td9 sa dr (by omega) (by omega) H.size) (cwV 0 hts gX11_adopts_X11_begins rfl rfl rfl hvX11_begins ⟨Nat.le_of_ble_eq_true rfl, Nat.le_of_ble_eq_true rfl⟩) (j_preV hP hD hK hS hZ hA [0, 1, 3] rfl rfl 0 rfl rfl) rfl rfl hl.1 rfl (lv_room (Nat.le_of_ble_eq_true rfl)) dX11_adopts_99 ⟨Nat.zero_le _, Nat.zero_le _⟩) hP hD hS hA [0, 1, 3] rfl (fun _ => rfl) (fun sab H locs hw_99 hP hD hS => ?_)
              have hP : va_P D vwCl [(h0, .inr (11, [.int (iI (th)), .long (lI (tra)), .ref h40, .int (iI (tn)), .int (iI (nx)), .int (iI (tk)), .int (iI (pl)), .int (iI (va)), .int (iI (fl)), .ref h41, .ref h42, .ref h43, .ref h44, .ref h45, .ref h46, .ref h47, .ref h48, .ref h49, .ref h50, .ref h51, .int (iI (0)), .ref h52, .int (iI (km)), .int (iI (bI dr)), .int (iI (ta)), .int (iI (le)), .int (iI (rm9)), .int (iI (rc9)), .int (iI (fa)), .int (iI (tr)), .int (iI (ro)), .int (iI (lo))])), (h41, .inl (cI, 18, .inl (aI td9))), (h42, .inl (cI, 512, .inl (aI gd9))), (h43, .inl (cI, 12, .inl (aI sab))), (h45, .inl (cZ, 2, .inl (aI (upZ (upZ ik 0 0) 1 0))))] H := hP
              have hD : va_D A [(h0, .inr (11, [.int (iI (th)), .long (lI (tra)), .ref h40, .int (iI (tn)), .int (iI (nx)), .int (iI (tk)), .int (iI (pl)), .int (iI (va)), .int (iI (fl)), .ref h41, .ref h42, .ref h43, .ref h44, .ref h45, .ref h46, .ref h47, .ref h48, .ref h49, .ref h50, .ref h51, .int (iI (0)), .ref h52, .int (iI (km)), .int (iI (bI dr)), .int (iI (ta)), .int (iI (le)), .int (iI (rm9)), .int (iI (rc9)), .int (iI (fa)), .int (iI (tr)), .int (iI (ro)), .int (iI (lo))])), (h41, .inl (cI, 18, .inl (aI td9))), (h42, .inl (cI, 512, .inl (aI gd9))), (h43, .inl (cI, 12, .inl (aI sab))), (h45, .inl (cZ, 2, .inl (aI (upZ (upZ ik 0 0) 1 0))))] := hD
              rw [hQ]; exact jm_vret (td9, gd9, sab, upZ (upZ ik 0 0) 1 0) hx hb hr hlocks hS hP rfl (by (try dsimp only); exact ⟨fun j h1 h2 => hi2 j h1 (by omega), fun c h1 h2 => hk2 c h1 (by omega), ⟨by simp [upZ], by simp [upZ]⟩, hw_99⟩) dX11_adopts_102
            · have hgr := hg3 k (by omega) (by omega)
              have hgk := hk3 (256 + k) (by omega)
              refine lv_aload_n hx hb dX11_adopts_38 rfl (lv_at hl 0 rfl) ?_
              refine va_get (D := D) (ci := 11) (v := .ref h42) (C := RX11) (T := TX11) (N := 32) hx hb hts UX11 hown hK hP 0 rfl rfl 10 (by decide) L16 (fun _ h9 => h9) rfl dX11_adopts_39 ?_
              refine lv_iload_n hx hb dX11_adopts_42 rfl (lv_at hl 1 rfl) ?_
              refine lv_aload_n hx hb dX11_adopts_43 rfl (lv_at hl 0 rfl) ?_
              refine va_get (D := D) (ci := 11) (v := .ref h42) (C := RX11) (T := TX11) (N := 32) hx hb hts UX11 hown hK hP 0 rfl rfl 10 (by decide) L16 (fun _ h9 => h9) rfl dX11_adopts_44 ?_
              refine lv_sipush (v := iI (256)) hx hb dX11_adopts_47 (by decide) ?_
              refine lv_iload_n hx hb dX11_adopts_50 rfl (lv_at hl 1 rfl) ?_
              refine j_iadd hx hb dX11_adopts_51 ?_
              refine j_iald hx hb hK hP 2 0 rfl rfl (by omega) dX11_adopts_52 ?_
              refine lv_iconst (v := iI (1)) hx hb dX11_adopts_53 rfl ?_
              refine lv_iand hx hb dX11_adopts_54 ?_
              rw [iand1]
              refine j_if_eq (tgt := 62) hx hb (by omega) dX11_adopts_55 (by decide) (fun c_55 => ?_) (fun c_55 => ?_)
              · refine lv_aload_n hx hb dX11_adopts_62 rfl (lv_at hl 0 rfl) ?_
                refine va_get (D := D) (ci := 11) (v := .ref h42) (C := RX11) (T := TX11) (N := 32) hx hb hts UX11 hown hK hP 0 rfl rfl 10 (by decide) L16 (fun _ h9 => h9) rfl dX11_adopts_63 ?_
                refine lv_sipush (v := iI (256)) hx hb dX11_adopts_66 (by decide) ?_
                refine lv_iload_n hx hb dX11_adopts_69 rfl (lv_at hl 1 rfl) ?_
                refine j_iadd hx hb dX11_adopts_70 ?_
                refine j_iald hx hb hK hP 2 0 rfl rfl (by omega) dX11_adopts_71 ?_
                refine j_iast hx hb hK hP hD hS 2 0 rfl rfl (by omega) dX11_adopts_72 (fun H locs hP hD hS => ?_)
                have hP : va_P D vwCl [(h0, .inr (11, [.int (iI (th)), .long (lI (tra)), .ref h40, .int (iI (tn)), .int (iI (nx)), .int (iI (tk)), .int (iI (pl)), .int (iI (va)), .int (iI (fl)), .ref h41, .ref h42, .ref h43, .ref h44, .ref h45, .ref h46, .ref h47, .ref h48, .ref h49, .ref h50, .ref h51, .int (iI (tc)), .ref h52, .int (iI (km)), .int (iI (bI dr)), .int (iI (ta)), .int (iI (le)), .int (iI (rm9)), .int (iI (rc9)), .int (iI (fa)), .int (iI (tr)), .int (iI (ro)), .int (iI (lo))])), (h41, .inl (cI, 18, .inl (aI td9))), (h42, .inl (cI, 512, .inl (aI (upZ gd9 k (gd9 (256 + k)))))), (h43, .inl (cI, 12, .inl (aI sa))), (h45, .inl (cZ, 2, .inl (aI ik)))] H := hP
                have hD : va_D A [(h0, .inr (11, [.int (iI (th)), .long (lI (tra)), .ref h40, .int (iI (tn)), .int (iI (nx)), .int (iI (tk)), .int (iI (pl)), .int (iI (va)), .int (iI (fl)), .ref h41, .ref h42, .ref h43, .ref h44, .ref h45, .ref h46, .ref h47, .ref h48, .ref h49, .ref h50, .ref h51, .int (iI (tc)), .ref h52, .int (iI (km)), .int (iI (bI dr)), .int (iI (ta)), .int (iI (le)), .int (iI (rm9)), .int (iI (rc9)), .int (iI (fa)), .int (iI (tr)), .int (iI (ro)), .int (iI (lo))])), (h41, .inl (cI, 18, .inl (aI td9))), (h42, .inl (cI, 512, .inl (aI (upZ gd9 k (gd9 (256 + k)))))), (h43, .inl (cI, 12, .inl (aI sa))), (h45, .inl (cZ, 2, .inl (aI ik)))] := hD
                refine lv_iinc (v := iI (k + 1)) (lv' := [(1, .int (iI (k + 1))), (0, .ref h0)]) hx hb dX11_adopts_73 hl (k := 1) rfl (iI_add _ _) (by decide) rfl (fun ls hl => ?_)
                refine lv_goto (tgt := 31) hx hb dX11_adopts_76 (by decide) ?_
                exact ih_31 ((k + 1)) ((upZ gd9 k (gd9 (256 + k)))) (by refine ⟨by omega, fun j h1 h2 => ?_, fun j h1 => ?_⟩; (by_cases hj : j = k; (rw [hj, upZ_s]; unfold hO; have e9 := hk3 (256 + k) (by omega); first | (rw [if_pos (by omega)]) | (rw [if_neg (by omega)]; omega)); (rw [upZ_n (by omega)]; exact hk2 j h1 (by omega))); (rw [upZ_n (by omega)]; exact hk3 j h1)) (by omega) H locs hP hD hS ls (lv_sub hl [1, 0] rfl)
              · refine lv_iconst (v := iI (1)) hx hb dX11_adopts_58 rfl ?_
                refine lv_goto (tgt := 72) hx hb dX11_adopts_59 (by decide) ?_
                refine j_iast hx hb hK hP hD hS 2 0 rfl rfl (by omega) dX11_adopts_72 (fun H locs hP hD hS => ?_)
                have hP : va_P D vwCl [(h0, .inr (11, [.int (iI (th)), .long (lI (tra)), .ref h40, .int (iI (tn)), .int (iI (nx)), .int (iI (tk)), .int (iI (pl)), .int (iI (va)), .int (iI (fl)), .ref h41, .ref h42, .ref h43, .ref h44, .ref h45, .ref h46, .ref h47, .ref h48, .ref h49, .ref h50, .ref h51, .int (iI (tc)), .ref h52, .int (iI (km)), .int (iI (bI dr)), .int (iI (ta)), .int (iI (le)), .int (iI (rm9)), .int (iI (rc9)), .int (iI (fa)), .int (iI (tr)), .int (iI (ro)), .int (iI (lo))])), (h41, .inl (cI, 18, .inl (aI td9))), (h42, .inl (cI, 512, .inl (aI (upZ gd9 k 1)))), (h43, .inl (cI, 12, .inl (aI sa))), (h45, .inl (cZ, 2, .inl (aI ik)))] H := hP
                have hD : va_D A [(h0, .inr (11, [.int (iI (th)), .long (lI (tra)), .ref h40, .int (iI (tn)), .int (iI (nx)), .int (iI (tk)), .int (iI (pl)), .int (iI (va)), .int (iI (fl)), .ref h41, .ref h42, .ref h43, .ref h44, .ref h45, .ref h46, .ref h47, .ref h48, .ref h49, .ref h50, .ref h51, .int (iI (tc)), .ref h52, .int (iI (km)), .int (iI (bI dr)), .int (iI (ta)), .int (iI (le)), .int (iI (rm9)), .int (iI (rc9)), .int (iI (fa)), .int (iI (tr)), .int (iI (ro)), .int (iI (lo))])), (h41, .inl (cI, 18, .inl (aI td9))), (h42, .inl (cI, 512, .inl (aI (upZ gd9 k 1)))), (h43, .inl (cI, 12, .inl (aI sa))), (h45, .inl (cZ, 2, .inl (aI ik)))] := hD
                refine lv_iinc (v := iI (k + 1)) (lv' := [(1, .int (iI (k + 1))), (0, .ref h0)]) hx hb dX11_adopts_73 hl (k := 1) rfl (iI_add _ _) (by decide) rfl (fun ls hl => ?_)
                refine lv_goto (tgt := 31) hx hb dX11_adopts_76 (by decide) ?_
                exact ih_31 ((k + 1)) ((upZ gd9 k 1)) (by refine ⟨by omega, fun j h1 h2 => ?_, fun j h1 => ?_⟩; (by_cases hj : j = k; (rw [hj, upZ_s]; unfold hO; have e9 := hk3 (256 + k) (by omega); first | (rw [if_pos (by omega)]) | (rw [if_neg (by omega)]; omega)); (rw [upZ_n (by omega)]; exact hk2 j h1 (by omega))); (rw [upZ_n (by omega)]; exact hk3 j h1)) (by omega) H locs hP hD hS ls (lv_sub hl [1, 0] rfl)
        exact loop_31 _ 0 gd (by exact ⟨by omega, fun j h1 h2 => by omega, fun j _ => rfl⟩) (Nat.lt_succ_self _) H locs hP hD hS ls (lv_sub hl [1, 0] rfl)
      · refine lv_aload_n hx hb dX11_adopts_8 rfl (lv_at hl 0 rfl) ?_
        refine va_get (D := D) (ci := 11) (v := .ref h41) (C := RX11) (T := TX11) (N := 32) hx hb hts UX11 hown hK hP 0 rfl rfl 9 (by decide) L13 (fun _ h9 => h9) rfl dX11_adopts_9 ?_
        refine lv_iload_n hx hb dX11_adopts_12 rfl (lv_at hl 1 rfl) ?_
        refine lv_aload_n hx hb dX11_adopts_13 rfl (lv_at hl 0 rfl) ?_
        refine va_get (D := D) (ci := 11) (v := .ref h41) (C := RX11) (T := TX11) (N := 32) hx hb hts UX11 hown hK hP 0 rfl rfl 9 (by decide) L13 (fun _ h9 => h9) rfl dX11_adopts_14 ?_
        refine lv_bipush (v := iI (9)) hx hb dX11_adopts_17 (by decide) ?_
        refine lv_iload_n hx hb dX11_adopts_19 rfl (lv_at hl 1 rfl) ?_
        refine j_iadd hx hb dX11_adopts_20 ?_
        refine j_iald hx hb hK hP 1 0 rfl rfl (by omega) dX11_adopts_21 ?_
        refine j_iast hx hb hK hP hD hS 1 0 rfl rfl (by omega) dX11_adopts_22 (fun H locs hP hD hS => ?_)
        have hP : va_P D vwCl [(h0, .inr (11, [.int (iI (th)), .long (lI (tra)), .ref h40, .int (iI (tn)), .int (iI (nx)), .int (iI (tk)), .int (iI (pl)), .int (iI (va)), .int (iI (fl)), .ref h41, .ref h42, .ref h43, .ref h44, .ref h45, .ref h46, .ref h47, .ref h48, .ref h49, .ref h50, .ref h51, .int (iI (tc)), .ref h52, .int (iI (km)), .int (iI (bI dr)), .int (iI (ta)), .int (iI (le)), .int (iI (rm9)), .int (iI (rc9)), .int (iI (fa)), .int (iI (tr)), .int (iI (ro)), .int (iI (lo))])), (h41, .inl (cI, 18, .inl (aI (upZ td9 i (td9 (9 + i)))))), (h42, .inl (cI, 512, .inl (aI gd))), (h43, .inl (cI, 12, .inl (aI sa))), (h45, .inl (cZ, 2, .inl (aI ik)))] H := hP
        have hD : va_D A [(h0, .inr (11, [.int (iI (th)), .long (lI (tra)), .ref h40, .int (iI (tn)), .int (iI (nx)), .int (iI (tk)), .int (iI (pl)), .int (iI (va)), .int (iI (fl)), .ref h41, .ref h42, .ref h43, .ref h44, .ref h45, .ref h46, .ref h47, .ref h48, .ref h49, .ref h50, .ref h51, .int (iI (tc)), .ref h52, .int (iI (km)), .int (iI (bI dr)), .int (iI (ta)), .int (iI (le)), .int (iI (rm9)), .int (iI (rc9)), .int (iI (fa)), .int (iI (tr)), .int (iI (ro)), .int (iI (lo))])), (h41, .inl (cI, 18, .inl (aI (upZ td9 i (td9 (9 + i)))))), (h42, .inl (cI, 512, .inl (aI gd))), (h43, .inl (cI, 12, .inl (aI sa))), (h45, .inl (cZ, 2, .inl (aI ik)))] := hD
        refine lv_iinc (v := iI (i + 1)) (lv' := [(1, .int (iI (i + 1))), (0, .ref h0)]) hx hb dX11_adopts_23 hl (k := 1) rfl (iI_add _ _) (by decide) rfl (fun ls hl => ?_)
        refine lv_goto (tgt := 2) hx hb dX11_adopts_26 (by decide) ?_
        exact ih_2 ((i + 1)) ((upZ td9 i (td9 (9 + i)))) (by refine ⟨by omega, fun j h1 h2 => ?_, fun j h1 => ?_⟩; (by_cases hj : j = i; (rw [hj, upZ_s]; exact hi3 _ (by omega)); (rw [upZ_n (by omega)]; exact hi2 j h1 (by omega))); (rw [upZ_n (by omega)]; exact hi3 j h1)) (by omega) H locs hP hD hS ls (lv_sub hl [1, 0] rfl)
  exact loop_2 _ 0 td (by exact ⟨by omega, fun j h1 h2 => by omega, fun j _ => rfl⟩) (Nat.lt_succ_self _) s.heap [] hP hD hS ls (lv_sub hl [1, 0] rfl)
