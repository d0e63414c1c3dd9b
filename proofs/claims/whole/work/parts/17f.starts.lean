abbrev rmX6_stepsToBell : Room := { frames := 2, cells := 0, slots := 0, locals := 46 }
set_option maxHeartbeats 4000000 in
set_option maxRecDepth 100000 in
theorem c_X6_stepsToBell (l : Launch) (D : va_G) (cI cZ : ClassId) (z : jZT) (h0 h8 h1 h2 h3 h4 h5 h9 : Nat) (b9 q st fa tr ro lo ba to ln wt wb : Int) (mk pa a : Int → Int) (f : Int → Int) (N : Int) (hf : NxtI a wt wb f N) (hf1 : f (-1) = -1) (hM : MkI 18432 mk ba to) (hto : 18434 ≤ to) (hMD : MkD mk ba N f b9) (hb9 : -9 ≤ b9 ∧ b9 < 256) (hq : 0 ≤ q ∧ q < N) : jMu (S := (Int → Int) × (Int → Int) × Int) l yX6_stepsToBell wsX6_stepsToBell rmX6_stepsToBell [.ref h0, .ref h8, .int (iI (b9)), .int (iI (q))] D cI cZ z [(h0, .inr (6, [.ref h1, .ref h2, .ref h3, .ref h4, .int (iI (st)), .int (iI (fa)), .int (iI (tr)), .int (iI (ro)), .int (iI (lo))])), (h1, .inr (3, [.ref h5, .int (iI (ba)), .int (iI (to))])), (h5, .inl (cI, 18432, .inl (aI mk))), (h2, .inl (cI, 18432, .inl (aI pa))), (h8, .inr (9, [.ref h9, .int (iI (ln)), .int (iI (wt)), .int (iI (wb))])), (h9, .inl (cI, 2048, .inl (aI a)))] (fun u => some (.int (iI (u.2.2)))) (fun u => MkI 18432 u.1 ba to ∧ MkD u.1 ba N f b9 ∧ DisI f b9 q u.2.2) (fun u => [(h0, .inr (6, [.ref h1, .ref h2, .ref h3, .ref h4, .int (iI (st)), .int (iI (fa)), .int (iI (tr)), .int (iI (ro)), .int (iI (lo))])), (h1, .inr (3, [.ref h5, .int (iI (ba)), .int (iI (to))])), (h5, .inl (cI, 18432, .inl (aI u.1))), (h2, .inl (cI, 18432, .inl (aI u.2.1))), (h8, .inr (9, [.ref h9, .int (iI (ln)), .int (iI (wt)), .int (iI (wb))])), (h9, .inl (cI, 2048, .inl (aI a)))]) := by
  refine jMu_of (cc := cX6_stepsToBell) (n := 8) (ret := (some .int)) (by decide) rfl (Nat.le_of_ble_eq_true rfl) ?_
  intro p e s m below meth c A ls args Q hQ F hA hZ hP hK hD hS hl
  obtain ⟨hx, hb, hr, hml, hown, hts, hlocks⟩ := F
  have hown : s.vm.findClass RX6 = some m.cls := hown
  have hl : lv_has ls 8 [(0, .ref h0), (1, .ref h8), (2, .int (iI (b9))), (3, .int (iI (q)))] := hl
  have LM116_1 := hts (.methodLink RX6 116 Lib.Math.min.name) (by decide +kernel)
  have LM116_2 := hts (.static Lib.Math.min.name) (by decide +kernel)
  have LM116_3 := hts (.initialized "java/lang/Math") (by decide +kernel)
  have LM116_4 := hts (.code Lib.Math.min.name Lib.Math.min.code 2 (some .int)) (by decide +kernel)
  have L15 := hts (.fieldLink RX6 15 "TinMouse$Starts" "seenStands" "LTinMouse$Marks;") (by decide +kernel)
  have L19 := hts (.fieldLink RX6 19 "TinMouse$Starts" "path" "[I") (by decide +kernel)
  have IRX10 := hts (.initialized RX10) (by decide +kernel)
  have STyX10_at := hts (.static yX10_at) (by decide +kernel)
  have STyX10_cellOf := hts (.static yX10_cellOf) (by decide +kernel)
  have STyX10_set := hts (.static yX10_set) (by decide +kernel)
  have UX6 : ∀ w ∈ wsX60, w ∈ wsX6_stepsToBell := fun w h => List.mem_cons_of_mem _ (List.mem_append_left _ (List.mem_append_left _ (List.mem_append_right _ h)))
  have hF : FokI f N := ⟨⟨by omega, hf.2.1⟩, hf.2.2.2⟩
  have hN := hf.2.1
  have cut_78 : ∀ (st8 : Int) (i8 : Int) (mk8 : Int → Int) (pa8 : Int → Int) (n8 : Nat), (i8 = (n8 : Int) ∧ st8 = itn f q n8 ∧ WkI f (MdF mk ba b9) q N n8 (18433 - n8) ∧ MkI 18432 mk8 ba to ∧ MkE mk8 ba N f b9 q n8 ∧ (∀ j : Nat, j < n8 → pa8 (j : Int) = itn f q j) ∧ (itn f q n8 < 0 ∨ MdF mk ba b9 (itn f q n8) ≠ 0 ∨ inN f q n8 (itn f q n8) = true) ∧ (∀ k : Int, inN f q n8 k = false → mk8 k = mk k)) → ∀ (H : Heap) (locs : List Loc), va_P D vwCl [(h0, .inr (6, [.ref h1, .ref h2, .ref h3, .ref h4, .int (iI (st)), .int (iI (fa)), .int (iI (tr)), .int (iI (ro)), .int (iI (lo))])), (h1, .inr (3, [.ref h5, .int (iI (ba)), .int (iI (to))])), (h5, .inl (cI, 18432, .inl (aI mk8))), (h2, .inl (cI, 18432, .inl (aI pa8))), (h8, .inr (9, [.ref h9, .int (iI (ln)), .int (iI (wt)), .int (iI (wb))])), (h9, .inl (cI, 2048, .inl (aI a)))] H → va_D A [(h0, .inr (6, [.ref h1, .ref h2, .ref h3, .ref h4, .int (iI (st)), .int (iI (fa)), .int (iI (tr)), .int (iI (ro)), .int (iI (lo))])), (h1, .inr (3, [.ref h5, .int (iI (ba)), .int (iI (to))])), (h5, .inl (cI, 18432, .inl (aI mk8))), (h2, .inl (cI, 18432, .inl (aI pa8))), (h8, .inr (9, [.ref h9, .int (iI (ln)), .int (iI (wt)), .int (iI (wb))])), (h9, .inl (cI, 2048, .inl (aI a)))] → va_S A s.heap H locs → ∀ ls : Array Slot, lv_has ls 8 [(0, .ref h0), (2, .int (iI (b9))), (4, .int (iI (st8))), (5, .int (iI (i8)))] → W p l e rmX6_stepsToBell s m args below meth c H locs 0 0 Q (F0 m 78 ls []) := by
    intro st8 i8 mk8 pa8 n8 hI_78 H locs hP hD hS ls hl
    obtain ⟨hk1, hk2, hk3, hk4, hk5, hk6, hk7, hk8⟩ := hI_78
    subst hk2
    have hnn := wk_n hF hk3
    have hir3 := hk3.2.2.1
    refine lv_sipush (v := iI (18433)) hx hb dX6_stepsToBell_78 (by decide) ?_
    have cut_115 : ∀ (e8 : Int), (DisI f b9 (itn f q n8) e8) → ∀ (H : Heap) (locs : List Loc), va_P D vwCl [(h0, .inr (6, [.ref h1, .ref h2, .ref h3, .ref h4, .int (iI (st)), .int (iI (fa)), .int (iI (tr)), .int (iI (ro)), .int (iI (lo))])), (h1, .inr (3, [.ref h5, .int (iI (ba)), .int (iI (to))])), (h5, .inl (cI, 18432, .inl (aI mk8))), (h2, .inl (cI, 18432, .inl (aI pa8))), (h8, .inr (9, [.ref h9, .int (iI (ln)), .int (iI (wt)), .int (iI (wb))])), (h9, .inl (cI, 2048, .inl (aI a)))] H → va_D A [(h0, .inr (6, [.ref h1, .ref h2, .ref h3, .ref h4, .int (iI (st)), .int (iI (fa)), .int (iI (tr)), .int (iI (ro)), .int (iI (lo))])), (h1, .inr (3, [.ref h5, .int (iI (ba)), .int (iI (to))])), (h5, .inl (cI, 18432, .inl (aI mk8))), (h2, .inl (cI, 18432, .inl (aI pa8))), (h8, .inr (9, [.ref h9, .int (iI (ln)), .int (iI (wt)), .int (iI (wb))])), (h9, .inl (cI, 2048, .inl (aI a)))] → va_S A s.heap H locs → ∀ ls : Array Slot, lv_has ls 8 [(0, .ref h0), (5, .int (iI (i8))), (6, .int (iI (e8)))] → W p l e rmX6_stepsToBell s m args below meth c H locs 0 0 Q (F0 m 115 ls []) := by
      intro e8 hI_115 H locs hP hD hS ls hl
      refine lv_iload hx hb dX6_stepsToBell_115 (lv_at hl 1 rfl) ?_
      refine lv_iconst (v := iI (1)) hx hb dX6_stepsToBell_117 rfl ?_
      refine j_isub hx hb dX6_stepsToBell_118 ?_
      refine lv_istore (lv' := [(7, .int (iI (i8 - 1))), (0, .ref h0), (5, .int (iI (i8))), (6, .int (iI (e8)))]) hx hb dX6_stepsToBell_119 hl (by decide) rfl (fun ls hl => ?_)
      have loop_121 : ∀ (fuel_121 : Nat) (e6 : Int) (i6 : Int) (mk7 : Int → Int) (n6 : Nat), (i6 = (n6 : Int) - 1 ∧ n6 ≤ n8 ∧ MkI 18432 mk7 ba to ∧ MkE mk7 ba N f b9 q n6 ∧ DisI f b9 (itn f q n6) e6) → n6 < fuel_121 → ∀ (H : Heap) (locs : List Loc), va_P D vwCl [(h0, .inr (6, [.ref h1, .ref h2, .ref h3, .ref h4, .int (iI (st)), .int (iI (fa)), .int (iI (tr)), .int (iI (ro)), .int (iI (lo))])), (h1, .inr (3, [.ref h5, .int (iI (ba)), .int (iI (to))])), (h5, .inl (cI, 18432, .inl (aI mk7))), (h2, .inl (cI, 18432, .inl (aI pa8))), (h8, .inr (9, [.ref h9, .int (iI (ln)), .int (iI (wt)), .int (iI (wb))])), (h9, .inl (cI, 2048, .inl (aI a)))] H → va_D A [(h0, .inr (6, [.ref h1, .ref h2, .ref h3, .ref h4, .int (iI (st)), .int (iI (fa)), .int (iI (tr)), .int (iI (ro)), .int (iI (lo))])), (h1, .inr (3, [.ref h5, .int (iI (ba)), .int (iI (to))])), (h5, .inl (cI, 18432, .inl (aI mk7))), (h2, .inl (cI, 18432, .inl (aI pa8))), (h8, .inr (9, [.ref h9, .int (iI (ln)), .int (iI (wt)), .int (iI (wb))])), (h9, .inl (cI, 2048, .inl (aI a)))] → va_S A s.heap H locs → ∀ ls : Array Slot, lv_has ls 8 [(0, .ref h0), (6, .int (iI (e6))), (7, .int (iI (i6)))] → W p l e rmX6_stepsToBell s m args below meth c H locs 0 0 Q (F0 m 121 ls []) := by
        intro fuel_121
        induction fuel_121 with
        | zero => intro e6 i6 mk7 n6 hI9 hm9; exact absurd hm9 (Nat.not_lt_zero _)
        | succ fuel_121 ih_121 =>
          intro e6 i6 mk7 n6 hI_121 hm_121 H locs hP hD hS ls hl
          obtain ⟨hv1, hv2, hv3, hv4, hv5⟩ := hI_121
          have hvr := hv5.1
          refine lv_iload hx hb dX6_stepsToBell_121 (lv_at hl 2 rfl) ?_
          refine j_if_lt (tgt := 164) hx hb (by omega) dX6_stepsToBell_123 (by decide) (fun c_123 => ?_) (fun c_123 => ?_)
          · refine lv_iload hx hb dX6_stepsToBell_164 (lv_at hl 1 rfl) ?_
            rw [hQ]; exact jm_iret (mk7, pa8, e6) hx hb hr hlocks hS hP rfl (by (try dsimp only); have hn0 : n6 = 0 := (by omega); rw [hn0] at hv4 hv5; exact ⟨hv3, mkE_d hv4, hv5⟩) dX6_stepsToBell_166
          · have hg6 := hk3.2.2.2 (n6 - 1) (by omega)
            have hn61 : f (itn f q (n6 - 1)) = itn f q n6 := (by rw [show n6 = n6 - 1 + 1 by omega]; rfl)
            have hnb : ¬ (0 ≤ itn f q (n6 - 1) ∧ itn f q (n6 - 1) / 72 = b9) := fun w => by have w2 := hg6.2.1; unfold MdF at w2; rw [if_pos (Or.inl w.2)] at w2; exact absurd w2 (by decide)
            refine lv_sipush (v := iI (18433)) hx hb dX6_stepsToBell_126 (by decide) ?_
            refine lv_iload hx hb dX6_stepsToBell_129 (lv_at hl 1 rfl) ?_
            refine lv_iconst (v := iI (1)) hx hb dX6_stepsToBell_131 rfl ?_
            refine j_iadd hx hb dX6_stepsToBell_132 ?_
            refine j_mmin hx hb (hml.trans hl.1.symm) hown LM116_1 LM116_2 LM116_3 LM116_4 (Nat.le_of_ble_eq_true rfl) (Nat.le_of_ble_eq_true rfl) (Nat.zero_le _) (Nat.zero_le _) (by omega) dX6_stepsToBell_133 ?_
            refine lv_istore (lv' := [(6, .int (iI (if 18433 < (e6 + 1) then 18433 else (e6 + 1)))), (0, .ref h0), (7, .int (iI (i6)))]) hx hb dX6_stepsToBell_136 hl (by decide) rfl (fun ls hl => ?_)
            refine lv_aload_n hx hb dX6_stepsToBell_138 rfl (lv_at hl 1 rfl) ?_
            refine va_get (D := D) (ci := 6) (v := .ref h1) (C := RX6) (T := TX6) (N := 9) hx hb hts UX6 hown hK hP 0 rfl rfl 0 (by decide) L15 (fun _ h9 => h9) rfl dX6_stepsToBell_139 ?_
            refine lv_aload_n hx hb dX6_stepsToBell_142 rfl (lv_at hl 1 rfl) ?_
            refine va_get (D := D) (ci := 6) (v := .ref h2) (C := RX6) (T := TX6) (N := 9) hx hb hts UX6 hown hK hP 0 rfl rfl 1 (by decide) L19 (fun _ h9 => h9) rfl dX6_stepsToBell_143 ?_
            refine lv_iload hx hb dX6_stepsToBell_146 (lv_at hl 2 rfl) ?_
            refine j_rd (va_runSN (As := [.ref h2, .int (iI (i6))]) (rest := [.ref h1]) ⟨hx, hb, hml, hown, hts⟩ (c_X10_at l D cI cZ z h2 i6 pa8 18432 (by first | assumption | omega) (by first | assumption | omega) H.size) ⟨va_cnB 2 hts gX6_stepsToBell_X10_at_n85 rfl rfl rfl (hZ.2.2.2.2.2 _ (List.mem_of_getElem? (i := 22) rfl)) IRX10 hsX10_at ⟨Nat.le_of_ble_eq_true rfl, Nat.le_of_ble_eq_true rfl⟩, STyX10_at, trivial⟩ (j_preS hP hD hK hS hZ hA [3] rfl rfl) rfl rfl hl.1 rfl (lv_room (Nat.le_of_ble_eq_true rfl)) dX6_stepsToBell_148 ⟨Nat.zero_le _, Nat.zero_le _⟩) ?_
            refine j_top (fun pt ept => ?_)
            rw [atI_in (by omega)] at ept
            have hpt : pt = itn f q (n6 - 1) := (by rw [ept, show i6 = ((n6 - 1 : Nat) : Int) by omega]; exact hk6 (n6 - 1) (by omega))
            refine lv_iload hx hb dX6_stepsToBell_151 (lv_at hl 0 rfl) ?_
            refine lv_iconst (v := iI (1)) hx hb dX6_stepsToBell_153 rfl ?_
            refine j_iadd hx hb dX6_stepsToBell_154 ?_
            refine j_muv (va_runV (As := [.int (iI (pt)), .int (iI ((if 18433 < (e6 + 1) then 18433 else (e6 + 1)) + 1))]) (rest := []) ⟨hx, hb, hml, hown, hts⟩ (c_X3_set l D cI cZ z h1 h5 pt ((if 18433 < (e6 + 1) then 18433 else (e6 + 1)) + 1) ba to mk7 18432 (by first | assumption | omega) (by first | assumption | omega) H.size) (cwV 2 hts gX6_stepsToBell_X3_set rfl rfl rfl hvX3_set ⟨Nat.le_of_ble_eq_true rfl, Nat.le_of_ble_eq_true rfl⟩) (j_preV hP hD hK hS hZ hA [1, 2] rfl rfl 1 rfl rfl) rfl rfl hl.1 rfl (lv_room (Nat.le_of_ble_eq_true rfl)) dX6_stepsToBell_155 ⟨Nat.zero_le _, Nat.zero_le _⟩) hP hD hS hA [1, 2] rfl (fun _ => rfl) (fun mk2_1 H locs hw_155 hP hD hS => ?_)
            have hP : va_P D vwCl [(h0, .inr (6, [.ref h1, .ref h2, .ref h3, .ref h4, .int (iI (st)), .int (iI (fa)), .int (iI (tr)), .int (iI (ro)), .int (iI (lo))])), (h1, .inr (3, [.ref h5, .int (iI (ba)), .int (iI (to))])), (h5, .inl (cI, 18432, .inl (aI mk2_1))), (h2, .inl (cI, 18432, .inl (aI pa8))), (h8, .inr (9, [.ref h9, .int (iI (ln)), .int (iI (wt)), .int (iI (wb))])), (h9, .inl (cI, 2048, .inl (aI a)))] H := hP
            have hD : va_D A [(h0, .inr (6, [.ref h1, .ref h2, .ref h3, .ref h4, .int (iI (st)), .int (iI (fa)), .int (iI (tr)), .int (iI (ro)), .int (iI (lo))])), (h1, .inr (3, [.ref h5, .int (iI (ba)), .int (iI (to))])), (h5, .inl (cI, 18432, .inl (aI mk2_1))), (h2, .inl (cI, 18432, .inl (aI pa8))), (h8, .inr (9, [.ref h9, .int (iI (ln)), .int (iI (wt)), .int (iI (wb))])), (h9, .inl (cI, 2048, .inl (aI a)))] := hD
            refine lv_iinc (v := iI (i6 + (-1))) (lv' := [(7, .int (iI (i6 + (-1)))), (6, .int (iI (if 18433 < (e6 + 1) then 18433 else (e6 + 1)))), (0, .ref h0)]) hx hb dX6_stepsToBell_158 hl (k := 2) rfl (iI_add _ _) (by decide) rfl (fun ls hl => ?_)
            refine lv_goto (tgt := 121) hx hb dX6_stepsToBell_161 (by decide) ?_
            exact ih_121 ((if 18433 < (e6 + 1) then 18433 else (e6 + 1))) ((i6 + (-1))) mk2_1 (n6 - 1) (by have hup := dis_up (f := f) (bl := b9) (q := itn f q (n6 - 1)) (v := e6) (by rw [hn61]; exact hv5) hnb; have hvr := hv5.1; rw [hw_155]; exact ⟨by omega, by omega, mkI_up hv3 (by omega), mkE_back (by rw [Nat.sub_add_cancel (by omega)]; exact hv4) hpt (by rw [hpt]; exact hg6.2.2) (by rw [hpt]; exact hup), hup⟩) (by omega) H locs hP hD hS ls (lv_sub hl [2, 1, 0] rfl)
      exact loop_121 _ e8 (i8 - 1) mk8 n8 (by exact ⟨by omega, Nat.le_refl _, hk4, hk5, hI_115⟩) (Nat.lt_succ_self _) H locs hP hD hS ls (lv_sub hl [1, 3, 0] rfl)
    refine lv_istore (lv' := [(6, .int (iI (18433))), (0, .ref h0), (2, .int (iI (b9))), (4, .int (iI ((itn f q n8)))), (5, .int (iI (i8)))]) hx hb dX6_stepsToBell_81 hl (by decide) rfl (fun ls hl => ?_)
    refine lv_iload hx hb dX6_stepsToBell_83 (lv_at hl 3 rfl) ?_
    refine lv_iconst (v := iI (-1)) hx hb dX6_stepsToBell_85 rfl ?_
    refine j_icmp_eq (tgt := 115) hx hb (by omega) dX6_stepsToBell_86 (by decide) (fun c_86 => ?_) (fun c_86 => ?_)
    · exact cut_115 18433 (by first | (rw [show itn f q n8 = -1 by omega]; exact dis_fall hf1) | exact dis_bell ⟨by omega, by omega⟩ | exact mkE_end hF hk3 hk5 hk7 hk8 (by omega) (by omega)) H locs hP hD hS ls (lv_sub hl [1, 4, 0] rfl)
    · refine lv_iload hx hb dX6_stepsToBell_89 (lv_at hl 3 rfl) ?_
      refine j_rd (va_runSN (As := [.int (iI ((itn f q n8)))]) (rest := []) ⟨hx, hb, hml, hown, hts⟩ (c_X10_cellOf l D cI cZ z ((itn f q n8)) (by first | assumption | omega) H.size) ⟨va_cnB 1 hts gX6_stepsToBell_X10_cellOf_n103 rfl rfl rfl (hZ.2.2.2.2.2 _ (List.mem_of_getElem? (i := 21) rfl)) IRX10 hsX10_cellOf ⟨Nat.le_of_ble_eq_true rfl, Nat.le_of_ble_eq_true rfl⟩, STyX10_cellOf, trivial⟩ (j_preS hP hD hK hS hZ hA [] rfl rfl) rfl rfl hl.1 rfl (lv_room (Nat.le_of_ble_eq_true rfl)) dX6_stepsToBell_91 ⟨Nat.zero_le _, Nat.zero_le _⟩) ?_
      refine j_top (fun cl ecl => ?_)
      rw [if_pos (by omega)] at ecl
      refine lv_iload_n hx hb dX6_stepsToBell_94 rfl (lv_at hl 2 rfl) ?_
      refine j_icmp_ne (tgt := 102) hx hb (by omega) dX6_stepsToBell_95 (by decide) (fun c_95 => ?_) (fun c_95 => ?_)
      · refine lv_aload_n hx hb dX6_stepsToBell_102 rfl (lv_at hl 1 rfl) ?_
        refine va_get (D := D) (ci := 6) (v := .ref h1) (C := RX6) (T := TX6) (N := 9) hx hb hts UX6 hown hK hP 0 rfl rfl 0 (by decide) L15 (fun _ h9 => h9) rfl dX6_stepsToBell_103 ?_
        refine lv_iload hx hb dX6_stepsToBell_106 (lv_at hl 3 rfl) ?_
        refine j_rd (va_runV (As := [.int (iI ((itn f q n8)))]) (rest := []) ⟨hx, hb, hml, hown, hts⟩ (c_X3_get l D cI cZ z h1 h5 ((itn f q n8)) ba to mk8 18432 (by first | assumption | omega) (by first | assumption | omega) (by first | assumption | omega) H.size) (cwV 1 hts gX6_stepsToBell_X3_get rfl rfl rfl hvX3_get ⟨Nat.le_of_ble_eq_true rfl, Nat.le_of_ble_eq_true rfl⟩) (j_preV hP hD hK hS hZ hA [1, 2] rfl rfl 1 rfl rfl) rfl rfl hl.1 rfl (lv_room (Nat.le_of_ble_eq_true rfl)) dX6_stepsToBell_108 ⟨Nat.zero_le _, Nat.zero_le _⟩) ?_
        have hgr := gt_rng hk4 (i := itn f q n8) (by omega)
        refine lv_iconst (v := iI (1)) hx hb dX6_stepsToBell_111 rfl ?_
        refine j_isub hx hb dX6_stepsToBell_112 ?_
        refine lv_istore (lv' := [(6, .int (iI ((gtI mk8 ba ((itn f q n8))) - 1))), (0, .ref h0), (2, .int (iI (b9))), (4, .int (iI ((itn f q n8)))), (5, .int (iI (i8)))]) hx hb dX6_stepsToBell_113 hl (by decide) rfl (fun ls hl => ?_)
        exact cut_115 ((gtI mk8 ba ((itn f q n8))) - 1) (by first | (rw [show itn f q n8 = -1 by omega]; exact dis_fall hf1) | exact dis_bell ⟨by omega, by omega⟩ | exact mkE_end hF hk3 hk5 hk7 hk8 (by omega) (by omega)) H locs hP hD hS ls (lv_sub hl [1, 4, 0] rfl)
      · refine lv_iconst (v := iI (0)) hx hb dX6_stepsToBell_98 rfl ?_
        refine lv_goto (tgt := 113) hx hb dX6_stepsToBell_99 (by decide) ?_
        refine lv_istore (lv' := [(6, .int (iI (0))), (0, .ref h0), (2, .int (iI (b9))), (4, .int (iI ((itn f q n8)))), (5, .int (iI (i8)))]) hx hb dX6_stepsToBell_113 hl (by decide) rfl (fun ls hl => ?_)
        exact cut_115 0 (by first | (rw [show itn f q n8 = -1 by omega]; exact dis_fall hf1) | exact dis_bell ⟨by omega, by omega⟩ | exact mkE_end hF hk3 hk5 hk7 hk8 (by omega) (by omega)) H locs hP hD hS ls (lv_sub hl [1, 4, 0] rfl)
  refine lv_iload_n hx hb dX6_stepsToBell_0 rfl (lv_at hl 3 rfl) ?_
  refine lv_istore (lv' := [(4, .int (iI (q))), (0, .ref h0), (1, .ref h8), (2, .int (iI (b9))), (3, .int (iI (q)))]) hx hb dX6_stepsToBell_1 hl (by decide) rfl (fun ls hl => ?_)
  refine lv_iconst (v := iI (0)) hx hb dX6_stepsToBell_3 rfl ?_
  refine lv_istore (lv' := [(5, .int (iI (0))), (4, .int (iI (q))), (0, .ref h0), (1, .ref h8), (2, .int (iI (b9))), (3, .int (iI (q)))]) hx hb dX6_stepsToBell_4 hl (by decide) rfl (fun ls hl => ?_)
  have loop_6 : ∀ (fuel_6 : Nat) (st9 : Int) (i : Int) (mk9 : Int → Int) (pa9 : Int → Int) (n : Nat) (m9 : Nat), (i = (n : Int) ∧ st9 = itn f q n ∧ WkI f (MdF mk ba b9) q N n m9 ∧ MkI 18432 mk9 ba to ∧ MkE mk9 ba N f b9 q n ∧ (∀ j : Nat, j < n → pa9 (j : Int) = itn f q j) ∧ (∀ k : Int, inN f q n k = false → mk9 k = mk k)) → m9 < fuel_6 → ∀ (H : Heap) (locs : List Loc), va_P D vwCl [(h0, .inr (6, [.ref h1, .ref h2, .ref h3, .ref h4, .int (iI (st)), .int (iI (fa)), .int (iI (tr)), .int (iI (ro)), .int (iI (lo))])), (h1, .inr (3, [.ref h5, .int (iI (ba)), .int (iI (to))])), (h5, .inl (cI, 18432, .inl (aI mk9))), (h2, .inl (cI, 18432, .inl (aI pa9))), (h8, .inr (9, [.ref h9, .int (iI (ln)), .int (iI (wt)), .int (iI (wb))])), (h9, .inl (cI, 2048, .inl (aI a)))] H → va_D A [(h0, .inr (6, [.ref h1, .ref h2, .ref h3, .ref h4, .int (iI (st)), .int (iI (fa)), .int (iI (tr)), .int (iI (ro)), .int (iI (lo))])), (h1, .inr (3, [.ref h5, .int (iI (ba)), .int (iI (to))])), (h5, .inl (cI, 18432, .inl (aI mk9))), (h2, .inl (cI, 18432, .inl (aI pa9))), (h8, .inr (9, [.ref h9, .int (iI (ln)), .int (iI (wt)), .int (iI (wb))])), (h9, .inl (cI, 2048, .inl (aI a)))] → va_S A s.heap H locs → ∀ ls : Array Slot, lv_has ls 8 [(0, .ref h0), (1, .ref h8), (2, .int (iI (b9))), (4, .int (iI (st9))), (5, .int (iI (i)))] → W p l e rmX6_stepsToBell s m args below meth c H locs 0 0 Q (F0 m 6 ls []) := by
    intro fuel_6
    induction fuel_6 with
    | zero => intro st9 i mk9 pa9 n m9 hI9 hm9; exact absurd hm9 (Nat.not_lt_zero _)
    | succ fuel_6 ih_6 =>
      intro st9 i mk9 pa9 n m9 hI_6 hm_6 H locs hP hD hS ls hl
      obtain ⟨hi1, hi2, hi3, hi4, hi5, hi6, hi8⟩ := hI_6
      have hnn := wk_n hF hi3
      have hir3 := hi3.2.2.1
      refine lv_iload hx hb dX6_stepsToBell_6 (lv_at hl 4 rfl) ?_
      refine lv_sipush (v := iI (18432)) hx hb dX6_stepsToBell_8 (by decide) ?_
      refine j_icmp_ge (tgt := 78) hx hb (by omega) dX6_stepsToBell_11 (by decide) (fun c_11 => ?_) (fun c_11 => ?_)
      · exact cut_78 st9 i mk9 pa9 n (by have hend : itn f q n < 0 ∨ MdF mk ba b9 (itn f q n) ≠ 0 ∨ inN f q n (itn f q n) = true := (by first | exact wk_full hF hi3 (by omega) | exact Or.inl (by omega) | exact Or.inr (Or.inl (by unfold MdF; rw [if_pos (Or.inl (by omega))]; decide)) | exact mdF_hit hi5 hi8 (by omega) (by rw [← hi2]; omega)); have hmm : 18433 - n = m9 := (by omega); rw [hmm]; exact ⟨hi1, hi2, hi3, hi4, hi5, hi6, hend, hi8⟩) H locs hP hD hS ls (lv_sub hl [0, 2, 3, 4] rfl)
      · refine lv_iload hx hb dX6_stepsToBell_14 (lv_at hl 3 rfl) ?_
        refine lv_iconst (v := iI (-1)) hx hb dX6_stepsToBell_16 rfl ?_
        refine j_icmp_eq (tgt := 78) hx hb (by omega) dX6_stepsToBell_17 (by decide) (fun c_17 => ?_) (fun c_17 => ?_)
        · exact cut_78 st9 i mk9 pa9 n (by have hend : itn f q n < 0 ∨ MdF mk ba b9 (itn f q n) ≠ 0 ∨ inN f q n (itn f q n) = true := (by first | exact wk_full hF hi3 (by omega) | exact Or.inl (by omega) | exact Or.inr (Or.inl (by unfold MdF; rw [if_pos (Or.inl (by omega))]; decide)) | exact mdF_hit hi5 hi8 (by omega) (by rw [← hi2]; omega)); have hmm : 18433 - n = m9 := (by omega); rw [hmm]; exact ⟨hi1, hi2, hi3, hi4, hi5, hi6, hend, hi8⟩) H locs hP hD hS ls (lv_sub hl [0, 2, 3, 4] rfl)
        · refine lv_iload hx hb dX6_stepsToBell_20 (lv_at hl 3 rfl) ?_
          refine j_rd (va_runSN (As := [.int (iI (st9))]) (rest := []) ⟨hx, hb, hml, hown, hts⟩ (c_X10_cellOf l D cI cZ z st9 (by first | assumption | omega) H.size) ⟨va_cnB 1 hts gX6_stepsToBell_X10_cellOf_n103 rfl rfl rfl (hZ.2.2.2.2.2 _ (List.mem_of_getElem? (i := 21) rfl)) IRX10 hsX10_cellOf ⟨Nat.le_of_ble_eq_true rfl, Nat.le_of_ble_eq_true rfl⟩, STyX10_cellOf, trivial⟩ (j_preS hP hD hK hS hZ hA [] rfl rfl) rfl rfl hl.1 rfl (lv_room (Nat.le_of_ble_eq_true rfl)) dX6_stepsToBell_22 ⟨Nat.zero_le _, Nat.zero_le _⟩) ?_
          refine j_top (fun ck eck => ?_)
          rw [if_pos (by omega)] at eck
          refine lv_iload_n hx hb dX6_stepsToBell_25 rfl (lv_at hl 2 rfl) ?_
          refine j_icmp_eq (tgt := 78) hx hb (by omega) dX6_stepsToBell_26 (by decide) (fun c_26 => ?_) (fun c_26 => ?_)
          · exact cut_78 st9 i mk9 pa9 n (by have hend : itn f q n < 0 ∨ MdF mk ba b9 (itn f q n) ≠ 0 ∨ inN f q n (itn f q n) = true := (by first | exact wk_full hF hi3 (by omega) | exact Or.inl (by omega) | exact Or.inr (Or.inl (by unfold MdF; rw [if_pos (Or.inl (by omega))]; decide)) | exact mdF_hit hi5 hi8 (by omega) (by rw [← hi2]; omega)); have hmm : 18433 - n = m9 := (by omega); rw [hmm]; exact ⟨hi1, hi2, hi3, hi4, hi5, hi6, hend, hi8⟩) H locs hP hD hS ls (lv_sub hl [0, 2, 3, 4] rfl)
          · refine lv_aload_n hx hb dX6_stepsToBell_29 rfl (lv_at hl 0 rfl) ?_
            refine va_get (D := D) (ci := 6) (v := .ref h1) (C := RX6) (T := TX6) (N := 9) hx hb hts UX6 hown hK hP 0 rfl rfl 0 (by decide) L15 (fun _ h9 => h9) rfl dX6_stepsToBell_30 ?_
            refine lv_iload hx hb dX6_stepsToBell_33 (lv_at hl 3 rfl) ?_
            refine j_rd (va_runV (As := [.int (iI (st9))]) (rest := []) ⟨hx, hb, hml, hown, hts⟩ (c_X3_get l D cI cZ z h1 h5 st9 ba to mk9 18432 (by first | assumption | omega) (by first | assumption | omega) (by first | assumption | omega) H.size) (cwV 1 hts gX6_stepsToBell_X3_get rfl rfl rfl hvX3_get ⟨Nat.le_of_ble_eq_true rfl, Nat.le_of_ble_eq_true rfl⟩) (j_preV hP hD hK hS hZ hA [1, 2] rfl rfl 1 rfl rfl) rfl rfl hl.1 rfl (lv_room (Nat.le_of_ble_eq_true rfl)) dX6_stepsToBell_35 ⟨Nat.zero_le _, Nat.zero_le _⟩) ?_
            have hgr := gt_rng hi4 (i := st9) (by omega)
            refine j_if_ne (tgt := 78) hx hb (by omega) dX6_stepsToBell_38 (by decide) (fun c_38 => ?_) (fun c_38 => ?_)
            · exact cut_78 st9 i mk9 pa9 n (by have hend : itn f q n < 0 ∨ MdF mk ba b9 (itn f q n) ≠ 0 ∨ inN f q n (itn f q n) = true := (by first | exact wk_full hF hi3 (by omega) | exact Or.inl (by omega) | exact Or.inr (Or.inl (by unfold MdF; rw [if_pos (Or.inl (by omega))]; decide)) | exact mdF_hit hi5 hi8 (by omega) (by rw [← hi2]; omega)); have hmm : 18433 - n = m9 := (by omega); rw [hmm]; exact ⟨hi1, hi2, hi3, hi4, hi5, hi6, hend, hi8⟩) H locs hP hD hS ls (lv_sub hl [0, 2, 3, 4] rfl)
            · refine lv_aload_n hx hb dX6_stepsToBell_41 rfl (lv_at hl 0 rfl) ?_
              refine va_get (D := D) (ci := 6) (v := .ref h1) (C := RX6) (T := TX6) (N := 9) hx hb hts UX6 hown hK hP 0 rfl rfl 0 (by decide) L15 (fun _ h9 => h9) rfl dX6_stepsToBell_42 ?_
              refine lv_iload hx hb dX6_stepsToBell_45 (lv_at hl 3 rfl) ?_
              refine lv_sipush (v := iI (18434)) hx hb dX6_stepsToBell_47 (by decide) ?_
              refine j_muv (va_runV (As := [.int (iI (st9)), .int (iI (18434))]) (rest := []) ⟨hx, hb, hml, hown, hts⟩ (c_X3_set l D cI cZ z h1 h5 st9 18434 ba to mk9 18432 (by first | assumption | omega) (by first | assumption | omega) H.size) (cwV 2 hts gX6_stepsToBell_X3_set rfl rfl rfl hvX3_set ⟨Nat.le_of_ble_eq_true rfl, Nat.le_of_ble_eq_true rfl⟩) (j_preV hP hD hK hS hZ hA [1, 2] rfl rfl 1 rfl rfl) rfl rfl hl.1 rfl (lv_room (Nat.le_of_ble_eq_true rfl)) dX6_stepsToBell_50 ⟨Nat.zero_le _, Nat.zero_le _⟩) hP hD hS hA [1, 2] rfl (fun _ => rfl) (fun mk2_2 H locs hw_50 hP hD hS => ?_)
              have hP : va_P D vwCl [(h0, .inr (6, [.ref h1, .ref h2, .ref h3, .ref h4, .int (iI (st)), .int (iI (fa)), .int (iI (tr)), .int (iI (ro)), .int (iI (lo))])), (h1, .inr (3, [.ref h5, .int (iI (ba)), .int (iI (to))])), (h5, .inl (cI, 18432, .inl (aI mk2_2))), (h2, .inl (cI, 18432, .inl (aI pa9))), (h8, .inr (9, [.ref h9, .int (iI (ln)), .int (iI (wt)), .int (iI (wb))])), (h9, .inl (cI, 2048, .inl (aI a)))] H := hP
              have hD : va_D A [(h0, .inr (6, [.ref h1, .ref h2, .ref h3, .ref h4, .int (iI (st)), .int (iI (fa)), .int (iI (tr)), .int (iI (ro)), .int (iI (lo))])), (h1, .inr (3, [.ref h5, .int (iI (ba)), .int (iI (to))])), (h5, .inl (cI, 18432, .inl (aI mk2_2))), (h2, .inl (cI, 18432, .inl (aI pa9))), (h8, .inr (9, [.ref h9, .int (iI (ln)), .int (iI (wt)), .int (iI (wb))])), (h9, .inl (cI, 2048, .inl (aI a)))] := hD
              refine lv_aload_n hx hb dX6_stepsToBell_53 rfl (lv_at hl 0 rfl) ?_
              refine va_get (D := D) (ci := 6) (v := .ref h2) (C := RX6) (T := TX6) (N := 9) hx hb hts UX6 hown hK hP 0 rfl rfl 1 (by decide) L19 (fun _ h9 => h9) rfl dX6_stepsToBell_54 ?_
              refine lv_iload hx hb dX6_stepsToBell_57 (lv_at hl 4 rfl) ?_
              refine lv_iload hx hb dX6_stepsToBell_59 (lv_at hl 3 rfl) ?_
              refine j_muv (va_runSN (As := [.ref h2, .int (iI (i)), .int (iI (st9))]) (rest := []) ⟨hx, hb, hml, hown, hts⟩ (c_X10_set l D cI cZ z h2 i st9 pa9 18432 (by first | assumption | omega) (by first | assumption | omega) H.size) ⟨va_cnB 3 hts gX6_stepsToBell_X10_set_n73 rfl rfl rfl (hZ.2.2.2.2.2 _ (List.mem_of_getElem? (i := 20) rfl)) IRX10 hsX10_set ⟨Nat.le_of_ble_eq_true rfl, Nat.le_of_ble_eq_true rfl⟩, STyX10_set, trivial⟩ (j_preS hP hD hK hS hZ hA [3] rfl rfl) rfl rfl hl.1 rfl (lv_room (Nat.le_of_ble_eq_true rfl)) dX6_stepsToBell_61 ⟨Nat.zero_le _, Nat.zero_le _⟩) hP hD hS hA [3] rfl (fun _ => rfl) (fun g2_3 H locs hw_61 hP hD hS => ?_)
              have hP : va_P D vwCl [(h0, .inr (6, [.ref h1, .ref h2, .ref h3, .ref h4, .int (iI (st)), .int (iI (fa)), .int (iI (tr)), .int (iI (ro)), .int (iI (lo))])), (h1, .inr (3, [.ref h5, .int (iI (ba)), .int (iI (to))])), (h5, .inl (cI, 18432, .inl (aI mk2_2))), (h2, .inl (cI, 18432, .inl (aI g2_3))), (h8, .inr (9, [.ref h9, .int (iI (ln)), .int (iI (wt)), .int (iI (wb))])), (h9, .inl (cI, 2048, .inl (aI a)))] H := hP
              have hD : va_D A [(h0, .inr (6, [.ref h1, .ref h2, .ref h3, .ref h4, .int (iI (st)), .int (iI (fa)), .int (iI (tr)), .int (iI (ro)), .int (iI (lo))])), (h1, .inr (3, [.ref h5, .int (iI (ba)), .int (iI (to))])), (h5, .inl (cI, 18432, .inl (aI mk2_2))), (h2, .inl (cI, 18432, .inl (aI g2_3))), (h8, .inr (9, [.ref h9, .int (iI (ln)), .int (iI (wt)), .int (iI (wb))])), (h9, .inl (cI, 2048, .inl (aI a)))] := hD
              refine lv_iinc (v := iI (i + 1)) (lv' := [(5, .int (iI (i + 1))), (0, .ref h0), (1, .ref h8), (2, .int (iI (b9))), (4, .int (iI (st9)))]) hx hb dX6_stepsToBell_64 hl (k := 4) rfl (iI_add _ _) (by decide) rfl (fun ls hl => ?_)
              refine lv_aload_n hx hb dX6_stepsToBell_67 rfl (lv_at hl 2 rfl) ?_
              refine lv_iload hx hb dX6_stepsToBell_68 (lv_at hl 4 rfl) ?_
              refine j_rd (va_runV (As := [.int (iI (st9))]) (rest := []) ⟨hx, hb, hml, hown, hts⟩ (c_X9_after l D cI cZ z h8 h9 st9 ln wt wb a f N (by first | assumption | omega) (by first | assumption | omega) H.size) (cwV 1 hts gX6_stepsToBell_X9_after rfl rfl rfl hvX9_after ⟨Nat.le_of_ble_eq_true rfl, Nat.le_of_ble_eq_true rfl⟩) (j_preV hP hD hK hS hZ hA [4, 5] rfl rfl 4 rfl rfl) rfl rfl hl.1 rfl (lv_room (Nat.le_of_ble_eq_true rfl)) dX6_stepsToBell_70 ⟨Nat.zero_le _, Nat.zero_le _⟩) ?_
              refine lv_istore (lv' := [(4, .int (iI (f st9))), (5, .int (iI (i + 1))), (0, .ref h0), (1, .ref h8), (2, .int (iI (b9)))]) hx hb dX6_stepsToBell_73 hl (by decide) rfl (fun ls hl => ?_)
              refine lv_goto (tgt := 6) hx hb dX6_stepsToBell_75 (by decide) ?_
              exact ih_6 ((f st9)) ((i + 1)) mk2_2 g2_3 (n + 1) (m9 - 1) (by have hnn := wk_n hF hi3; have hno := mdF_no hi5 hi8 (by omega) (by omega) (by rw [← hi2]; omega); have hws := wk_step hF hi3 (by omega) hno.1 hno.2; rw [hw_50, hw_61, setI_in (by omega)]; exact ⟨by omega, by rw [itn, ← hi2], hws.1, mkI_up hi4 (by omega), mkE_step hi5 hi2, fun j h => by by_cases e : j = n <;> first | (rw [e, ← hi1, upZ_s]; exact hi2) | (rw [upZ_n (by omega)]; exact hi6 j (by omega)), fun k w => mdF_same hi8 hi2 w⟩) (by have hwb := hi3.2.1; have hnn := wk_n hF hi3; omega) H locs hP hD hS ls (lv_sub hl [2, 3, 4, 0, 1] rfl)
  exact loop_6 _ q 0 mk pa 0 18433 (by exact ⟨rfl, rfl, wk_0 hq, hM, mkE_0 hMD, fun j h => absurd h (Nat.not_lt_zero _), fun k _ => rfl⟩) (Nat.lt_succ_self _) s.heap [] hP hD hS ls (lv_sub hl [2, 3, 4, 1, 0] rfl)
abbrev rmX6_leastShared : Room := { frames := 1, cells := 0, slots := 0, locals := 21 }
set_option maxHeartbeats 4000000 in
set_option maxRecDepth 100000 in
theorem c_X6_leastShared (l : Launch) (D : va_G) (cI cZ : ClassId) (z : jZT) (h0 h10 h1 h2 h3 h4 h11 : Nat) (st fa tr ro lo Wi Hi bl sc sd no tu be sp : Int) (ir g : Int → Int) (al : Int → Bool) (hW : 3 ≤ Wi ∧ Wi ≤ 16) (hH : 3 ≤ Hi ∧ Hi ≤ 16) (hro : 0 ≤ ro ∧ ro < 100000) (hir : InRI ir ro al) : jRd l yX6_leastShared wsX6_leastShared rmX6_leastShared [.ref h0, .ref h10] D cI cZ z [(h0, .inr (6, [.ref h1, .ref h2, .ref h3, .ref h4, .int (iI (st)), .int (iI (fa)), .int (iI (tr)), .int (iI (ro)), .int (iI (lo))])), (h4, .inl (cI, 256, .inl (aI ir))), (h10, .inr (7, [.ref h11, .int (iI (Wi)), .int (iI (Hi)), .int (iI (bl)), .int (iI (sc)), .int (iI (sd)), .int (iI (no)), .int (iI (tu)), .int (iI (be)), .int (iI (sp))])), (h11, .inl (cI, 256, .inl (aI g)))] (some (.int (iI (if 0 < ro then lsF al (Wi * Hi).toNat 0 else -9)))) := by
  refine jRd_of (cc := cX6_leastShared) (n := 3) (ret := (some .int)) (by decide) rfl (Nat.le_of_ble_eq_true rfl) ?_
  intro p e s m below meth c A ls args Q hQ F hA hZ hP hK hD hS hl
  obtain ⟨hx, hb, hr, hml, hown, hts, hlocks⟩ := F
  have hown : s.vm.findClass RX6 = some m.cls := hown
  have hl : lv_has ls 3 [(0, .ref h0), (1, .ref h10)] := hl
  have L36 := hts (.fieldLink RX6 36 "TinMouse$Starts" "rounds" "I") (by decide +kernel)
  have L9 := hts (.fieldLink RX6 9 "TinMouse$Starts" "inRounds" "[I") (by decide +kernel)
  have IRX10 := hts (.initialized RX10) (by decide +kernel)
  have STyX10_at := hts (.static yX10_at) (by decide +kernel)
  have UX6 : ∀ w ∈ wsX60, w ∈ wsX6_leastShared := fun w h => List.mem_cons_of_mem _ (List.mem_append_left _ (List.mem_append_right _ h))
  have hwh := wh_rng hW hH
  refine lv_iconst (v := iI (0)) hx hb dX6_leastShared_0 rfl ?_
  refine lv_istore_n (lv' := [(2, .int (iI (0))), (0, .ref h0), (1, .ref h10)]) hx hb dX6_leastShared_1 rfl hl (by decide) rfl (fun ls hl => ?_)
  have loop_2 : ∀ (fuel_2 : Nat) (k : Int) (n : Nat), ((0 ≤ k ∧ k + (n : Int) = Wi * Hi) ∧ lsF al n k = lsF al (Wi * Hi).toNat 0) → n < fuel_2 → ∀ ls : Array Slot, lv_has ls 3 [(0, .ref h0), (1, .ref h10), (2, .int (iI (k)))] → W p l e rmX6_leastShared s m args below meth c s.heap [] 0 0 Q (F0 m 2 ls []) := by
    intro fuel_2
    induction fuel_2 with
    | zero => intro k n hI9 hm9; exact absurd hm9 (Nat.not_lt_zero _)
    | succ fuel_2 ih_2 =>
      intro k n hI_2 hm_2 ls hl
      obtain ⟨hi1, hi2⟩ := hI_2
      refine lv_iload_n hx hb dX6_leastShared_2 rfl (lv_at hl 2 rfl) ?_
      refine lv_aload_n hx hb dX6_leastShared_3 rfl (lv_at hl 1 rfl) ?_
      refine j_rd (va_runV (As := []) (rest := [.int (iI (k))]) ⟨hx, hb, hml, hown, hts⟩ (c_X7_size l D cI cZ z h10 h11 Wi Hi bl sc sd no tu be sp g  s.heap.size) (cwV 0 hts gX6_leastShared_X7_size rfl rfl rfl hvX7_size ⟨Nat.le_of_ble_eq_true rfl, Nat.le_of_ble_eq_true rfl⟩) (j_preV hP hD hK hS hZ hA [2, 3] rfl rfl 2 rfl rfl) rfl rfl hl.1 rfl (lv_room (Nat.le_of_ble_eq_true rfl)) dX6_leastShared_4 ⟨Nat.zero_le _, Nat.zero_le _⟩) ?_
      refine j_icmp_ge (tgt := 40) hx hb (by omega) dX6_leastShared_7 (by decide) (fun c_7 => ?_) (fun c_7 => ?_)
      · refine lv_bipush (v := iI (-9)) hx hb dX6_leastShared_40 (by decide) ?_
        rw [hQ]; exact jr_iret hx hb hr hlocks (jo_i (by first | (rw [if_pos (by omega), ← hi2]; exact (lsF_e (k2 := k) (by omega) rfl (fun w => (hir k (by omega) (by omega)).2.mp (by omega))).symm) | (by_cases w : 0 < ro; (rw [if_pos w, ← hi2, show n = 0 by omega]; rfl); (rw [if_neg w])))) dX6_leastShared_42
      · refine lv_aload_n hx hb dX6_leastShared_10 rfl (lv_at hl 0 rfl) ?_
        refine va_get (D := D) (ci := 6) (v := .int (iI (ro))) (C := RX6) (T := TX6) (N := 9) hx hb hts UX6 hown hK hP 0 rfl rfl 7 (by decide) L36 (fun _ h9 => h9) rfl dX6_leastShared_11 ?_
        refine j_if_le (tgt := 40) hx hb (by omega) dX6_leastShared_14 (by decide) (fun c_14 => ?_) (fun c_14 => ?_)
        · refine lv_bipush (v := iI (-9)) hx hb dX6_leastShared_40 (by decide) ?_
          rw [hQ]; exact jr_iret hx hb hr hlocks (jo_i (by first | (rw [if_pos (by omega), ← hi2]; exact (lsF_e (k2 := k) (by omega) rfl (fun w => (hir k (by omega) (by omega)).2.mp (by omega))).symm) | (by_cases w : 0 < ro; (rw [if_pos w, ← hi2, show n = 0 by omega]; rfl); (rw [if_neg w])))) dX6_leastShared_42
        · refine lv_aload_n hx hb dX6_leastShared_17 rfl (lv_at hl 0 rfl) ?_
          refine va_get (D := D) (ci := 6) (v := .ref h4) (C := RX6) (T := TX6) (N := 9) hx hb hts UX6 hown hK hP 0 rfl rfl 3 (by decide) L9 (fun _ h9 => h9) rfl dX6_leastShared_18 ?_
          refine lv_iload_n hx hb dX6_leastShared_21 rfl (lv_at hl 2 rfl) ?_
          refine j_rd (va_runSN (As := [.ref h4, .int (iI (k))]) (rest := []) ⟨hx, hb, hml, hown, hts⟩ (c_X10_at l D cI cZ z h4 k ir 256 (by first | assumption | omega) (by first | assumption | omega) s.heap.size) ⟨va_cnB 2 hts gX6_leastShared_X10_at_n85 rfl rfl rfl (hZ.2.2.2.2.2 _ (List.mem_of_getElem? (i := 22) rfl)) IRX10 hsX10_at ⟨Nat.le_of_ble_eq_true rfl, Nat.le_of_ble_eq_true rfl⟩, STyX10_at, trivial⟩ (j_preS hP hD hK hS hZ hA [1] rfl rfl) rfl rfl hl.1 rfl (lv_room (Nat.le_of_ble_eq_true rfl)) dX6_leastShared_22 ⟨Nat.zero_le _, Nat.zero_le _⟩) ?_
          refine j_top (fun cv ecv => ?_)
          rw [atI_in (by omega)] at ecv
          have hcv := (hir k (by omega) (by omega)).1
          refine lv_aload_n hx hb dX6_leastShared_25 rfl (lv_at hl 0 rfl) ?_
          refine va_get (D := D) (ci := 6) (v := .int (iI (ro))) (C := RX6) (T := TX6) (N := 9) hx hb hts UX6 hown hK hP 0 rfl rfl 7 (by decide) L36 (fun _ h9 => h9) rfl dX6_leastShared_26 ?_
          refine j_icmp_ne (tgt := 34) hx hb (by omega) dX6_leastShared_29 (by decide) (fun c_29 => ?_) (fun c_29 => ?_)
          · refine lv_iinc (v := iI (k + 1)) (lv' := [(2, .int (iI (k + 1))), (0, .ref h0), (1, .ref h10)]) hx hb dX6_leastShared_34 hl (k := 2) rfl (iI_add _ _) (by decide) rfl (fun ls hl => ?_)
            refine lv_goto (tgt := 2) hx hb dX6_leastShared_37 (by decide) ?_
            exact ih_2 ((k + 1)) (n - 1) (by exact ⟨by omega, lsF_s hi2 (by omega) (fun w => c_29 (by have w2 := (hir k (by omega) (by omega)).2.mpr w; omega))⟩) (by omega) ls (lv_sub hl [1, 2, 0] rfl)
          · refine lv_iload_n hx hb dX6_leastShared_32 rfl (lv_at hl 2 rfl) ?_
            rw [hQ]; exact jr_iret hx hb hr hlocks (jo_i (by first | (rw [if_pos (by omega), ← hi2]; exact (lsF_e (k2 := k) (by omega) rfl (fun w => (hir k (by omega) (by omega)).2.mp (by omega))).symm) | (by_cases w : 0 < ro; (rw [if_pos w, ← hi2, show n = 0 by omega]; rfl); (rw [if_neg w])))) dX6_leastShared_33
  exact loop_2 _ 0 ((Wi * Hi).toNat) (by exact ⟨by omega, rfl⟩) (Nat.lt_succ_self _) ls (lv_sub hl [1, 2, 0] rfl)
abbrev rmX7_countOf : Room := { frames := 1, cells := 0, slots := 0, locals := 21 }
set_option maxHeartbeats 4000000 in
set_option maxRecDepth 100000 in
theorem c_X7_countOf (l : Launch) (D : va_G) (cI cZ : ClassId) (z : jZT) (h0 h1 : Nat) (w Wi Hi bl sc sd no tu be sp : Int) (g : Int → Int) (hW : 3 ≤ Wi ∧ Wi ≤ 16) (hH : 3 ≤ Hi ∧ Hi ≤ 16) (hg : ∀ j : Int, 0 ≤ j → j < 256 → 0 ≤ g j ∧ g j ≤ 2) (hw : -2147483648 ≤ w ∧ w < 2147483648) : jRd l yX7_countOf wsX7_countOf rmX7_countOf [.ref h0, .int (iI (w))] D cI cZ z [(h0, .inr (7, [.ref h1, .int (iI (Wi)), .int (iI (Hi)), .int (iI (bl)), .int (iI (sc)), .int (iI (sd)), .int (iI (no)), .int (iI (tu)), .int (iI (be)), .int (iI (sp))])), (h1, .inl (cI, 256, .inl (aI g)))] (some (.int (iI (coN Wi Hi g w (Wi * Hi).toNat)))) := by
  refine jRd_of (cc := cX7_countOf) (n := 4) (ret := (some .int)) (by decide) rfl (Nat.le_of_ble_eq_true rfl) ?_
  intro p e s m below meth c A ls args Q hQ F hA hZ hP hK hD hS hl
  obtain ⟨hx, hb, hr, hml, hown, hts, hlocks⟩ := F
  have hown : s.vm.findClass RX7 = some m.cls := hown
  have hl : lv_has ls 4 [(0, .ref h0), (1, .int (iI (w)))] := hl
  have hwh := wh_rng hW hH
  refine lv_iconst (v := iI (0)) hx hb dX7_countOf_0 rfl ?_
  refine lv_istore_n (lv' := [(2, .int (iI (0))), (0, .ref h0), (1, .int (iI (w)))]) hx hb dX7_countOf_1 rfl hl (by decide) rfl (fun ls hl => ?_)
  refine lv_iconst (v := iI (0)) hx hb dX7_countOf_2 rfl ?_
  refine lv_istore_n (lv' := [(3, .int (iI (0))), (2, .int (iI (0))), (0, .ref h0), (1, .int (iI (w)))]) hx hb dX7_countOf_3 rfl hl (by decide) rfl (fun ls hl => ?_)
  have loop_4 : ∀ (fuel_4 : Nat) (mm : Int) (k : Int) (n : Nat), (k = (n : Int) ∧ n ≤ (Wi * Hi).toNat ∧ mm = coN Wi Hi g w n) → ((Wi * Hi).toNat - n) < fuel_4 → ∀ ls : Array Slot, lv_has ls 4 [(0, .ref h0), (1, .int (iI (w))), (2, .int (iI (mm))), (3, .int (iI (k)))] → W p l e rmX7_countOf s m args below meth c s.heap [] 0 0 Q (F0 m 4 ls []) := by
    intro fuel_4
    induction fuel_4 with
    | zero => intro mm k n hI9 hm9; exact absurd hm9 (Nat.not_lt_zero _)
    | succ fuel_4 ih_4 =>
      intro mm k n hI_4 hm_4 ls hl
      obtain ⟨hi1, hi2, hi3⟩ := hI_4
      have hcr := coN_rng Wi Hi g w n
      refine lv_iload_n hx hb dX7_countOf_4 rfl (lv_at hl 3 rfl) ?_
      refine lv_aload_n hx hb dX7_countOf_5 rfl (lv_at hl 0 rfl) ?_
      refine j_rd (va_runV (As := []) (rest := [.int (iI (k))]) ⟨hx, hb, hml, hown, hts⟩ (c_X7_size l D cI cZ z h0 h1 Wi Hi bl sc sd no tu be sp g  s.heap.size) (cwV 0 hts gX7_countOf_X7_size rfl rfl rfl hvX7_size ⟨Nat.le_of_ble_eq_true rfl, Nat.le_of_ble_eq_true rfl⟩) (j_preV hP hD hK hS hZ hA [0, 1] rfl rfl 0 rfl rfl) rfl rfl hl.1 rfl (lv_room (Nat.le_of_ble_eq_true rfl)) dX7_countOf_6 ⟨Nat.zero_le _, Nat.zero_le _⟩) ?_
      refine j_icmp_ge (tgt := 30) hx hb (by omega) dX7_countOf_9 (by decide) (fun c_9 => ?_) (fun c_9 => ?_)
      · refine lv_iload_n hx hb dX7_countOf_30 rfl (lv_at hl 2 rfl) ?_
        rw [hQ]; exact jr_iret hx hb hr hlocks (jo_i (by rw [hi3, show n = (Wi * Hi).toNat by omega])) dX7_countOf_31
      · have hkr := kd_rng (W := Wi) (H := Hi) hg k
        refine lv_aload_n hx hb dX7_countOf_12 rfl (lv_at hl 0 rfl) ?_
        refine lv_iload_n hx hb dX7_countOf_13 rfl (lv_at hl 3 rfl) ?_
        refine j_rd (va_runV (As := [.int (iI (k))]) (rest := []) ⟨hx, hb, hml, hown, hts⟩ (c_X7_kindOf l D cI cZ z h0 h1 k Wi Hi bl sc sd no tu be sp g (by first | assumption | omega) (by first | assumption | omega) (by first | assumption | omega) s.heap.size) (cwV 1 hts gX7_countOf_X7_kindOf rfl rfl rfl hvX7_kindOf ⟨Nat.le_of_ble_eq_true rfl, Nat.le_of_ble_eq_true rfl⟩) (j_preV hP hD hK hS hZ hA [0, 1] rfl rfl 0 rfl rfl) rfl rfl hl.1 rfl (lv_room (Nat.le_of_ble_eq_true rfl)) dX7_countOf_14 ⟨Nat.zero_le _, Nat.zero_le _⟩) ?_
        refine lv_iload_n hx hb dX7_countOf_17 rfl (lv_at hl 1 rfl) ?_
        refine j_icmp_ne (tgt := 24) hx hb (by omega) dX7_countOf_18 (by decide) (fun c_18 => ?_) (fun c_18 => ?_)
        · refine lv_iinc (v := iI (k + 1)) (lv' := [(3, .int (iI (k + 1))), (0, .ref h0), (1, .int (iI (w))), (2, .int (iI (mm)))]) hx hb dX7_countOf_24 hl (k := 3) rfl (iI_add _ _) (by decide) rfl (fun ls hl => ?_)
          refine lv_goto (tgt := 4) hx hb dX7_countOf_27 (by decide) ?_
          exact ih_4 mm ((k + 1)) (n + 1) (by exact ⟨by omega, by omega, by rw [coN, ← hi1]; first | (rw [if_pos (by omega)]; omega) | (rw [if_neg (by omega)]; omega)⟩) (by omega) ls (lv_sub hl [1, 2, 3, 0] rfl)
        · refine lv_iinc (v := iI (mm + 1)) (lv' := [(2, .int (iI (mm + 1))), (0, .ref h0), (1, .int (iI (w))), (3, .int (iI (k)))]) hx hb dX7_countOf_21 hl (k := 2) rfl (iI_add _ _) (by decide) rfl (fun ls hl => ?_)
          refine lv_iinc (v := iI (k + 1)) (lv' := [(3, .int (iI (k + 1))), (2, .int (iI (mm + 1))), (0, .ref h0), (1, .int (iI (w)))]) hx hb dX7_countOf_24 hl (k := 3) rfl (iI_add _ _) (by decide) rfl (fun ls hl => ?_)
          refine lv_goto (tgt := 4) hx hb dX7_countOf_27 (by decide) ?_
          exact ih_4 ((mm + 1)) ((k + 1)) (n + 1) (by exact ⟨by omega, by omega, by rw [coN, ← hi1]; first | (rw [if_pos (by omega)]; omega) | (rw [if_neg (by omega)]; omega)⟩) (by omega) ls (lv_sub hl [2, 3, 1, 0] rfl)
  exact loop_4 _ 0 0 0 (by exact ⟨rfl, by omega, rfl⟩) (Nat.lt_succ_self _) ls (lv_sub hl [2, 3, 1, 0] rfl)
