/-! THE START: the classes, the statics, the texts -/
theorem st_arr {args : Array Value} {s : State} {ty : FieldType} (hty : ty = .int ∨ ty = .boolean) (h : (Cond.arrayClass ty).before args s = true) : ∃ cA : ClassId, ArrOfT s cA ty ∧ va_RA s cA ty := by
  obtain ⟨cA, kA, comp, h1, h2, h3⟩ := Cond.arrayClass_spec h
  rcases hty with rfl | rfl
  · exact ⟨cA, fun n z => ⟨(fun k h => by cases h), kA, h2, comp, h3⟩, h1⟩
  · exact ⟨cA, fun n z => ⟨(fun k h => by cases h), kA, h2, comp, h3⟩, h1⟩
theorem K_start {args : Array Value} {s : State} (hts : ∀ w ∈ lw_tbl, w.before args s = true) : ∃ (D : va_G) (cI cZ : ClassId), va_K D vwCl (jT cI cZ) s := by
  have htl : ∀ w ∈ wsL_law, w.before args s = true := fun w h => hts w (wsL_law_in w h)
  obtain ⟨c0, i0, k0⟩ := u_known (C := RX0) (T := TX0) (N := 3) (n := 3) htl inlX0 (hts (.instantiable RX0 3) (by decide +kernel))
  obtain ⟨c1, i1, k1⟩ := u_known (C := RX1) (T := TX1) (N := 5) (n := 5) htl inlX1 (hts (.instantiable RX1 5) (by decide +kernel))
  obtain ⟨c2, i2, k2⟩ := u_known (C := RX2) (T := TX2) (N := 4) (n := 4) htl inlX2 (hts (.instantiable RX2 4) (by decide +kernel))
  obtain ⟨c3, i3, k3⟩ := u_known (C := RX3) (T := TX3) (N := 3) (n := 3) htl inlX3 (hts (.instantiable RX3 3) (by decide +kernel))
  obtain ⟨c4, i4, k4⟩ := u_known (C := RX4) (T := TX4) (N := 10) (n := 10) htl inlX4 (hts (.instantiable RX4 10) (by decide +kernel))
  obtain ⟨c5, i5, k5⟩ := u_known (C := RX5) (T := TX5) (N := 4) (n := 4) htl inlX5 (hts (.instantiable RX5 4) (by decide +kernel))
  obtain ⟨c6, i6, k6⟩ := u_known (C := RX6) (T := TX6) (N := 9) (n := 9) htl inlX6 (hts (.instantiable RX6 9) (by decide +kernel))
  obtain ⟨c7, i7, k7⟩ := u_known (C := RX7) (T := TX7) (N := 10) (n := 10) htl inlX7 (hts (.instantiable RX7 10) (by decide +kernel))
  obtain ⟨c8, i8, k8⟩ := u_known (C := RX8) (T := TX8) (N := 6) (n := 6) htl inlX8 (hts (.instantiable RX8 6) (by decide +kernel))
  obtain ⟨c9, i9, k9⟩ := u_known (C := RX9) (T := TX9) (N := 4) (n := 4) htl inlX9 (hts (.instantiable RX9 4) (by decide +kernel))
  obtain ⟨c10, i10, k10⟩ := u_known (C := RX10) (T := TX10) (N := 18) (n := 18) htl inlX10 (hts (.instantiable RX10 18) (by decide +kernel))
  obtain ⟨c11, i11, k11⟩ := u_known (C := RX11) (T := TX11) (N := 32) (n := 32) htl inlX11 (hts (.instantiable RX11 32) (by decide +kernel))
  obtain ⟨cI, a1, a2⟩ := st_arr (Or.inl rfl) (hts (.arrayClass .int) (by decide +kernel))
  obtain ⟨cZ, b1, b2⟩ := st_arr (Or.inr rfl) (hts (.arrayClass .boolean) (by decide +kernel))
  refine ⟨⟨fun k => match k with | 0 => c0 | 1 => c1 | 2 => c2 | 3 => c3 | 4 => c4 | 5 => c5 | 6 => c6 | 7 => c7 | 8 => c8 | 9 => c9 | 10 => c10 | _ => c11, fun k => match k with | 0 => i0 | 1 => i1 | 2 => i2 | 3 => i3 | 4 => i4 | 5 => i5 | 6 => i6 | 7 => i7 | 8 => i8 | 9 => i9 | 10 => i10 | _ => i11⟩, cI, cZ, ?_, ?_⟩
  · intro k q hq
    match k, hq with
    | 0, hq => cases hq; exact k0
    | 1, hq => cases hq; exact k1
    | 2, hq => cases hq; exact k2
    | 3, hq => cases hq; exact k3
    | 4, hq => cases hq; exact k4
    | 5, hq => cases hq; exact k5
    | 6, hq => cases hq; exact k6
    | 7, hq => cases hq; exact k7
    | 8, hq => cases hq; exact k8
    | 9, hq => cases hq; exact k9
    | 10, hq => cases hq; exact k10
    | 11, hq => cases hq; exact k11
    | k + 12, hq => simp [vwCl] at hq
  · intro k q hk
    match k, hk with
    | 0, hk => cases hk; exact ⟨a1, a2⟩
    | 1, hk => cases hk; exact ⟨b1, b2⟩
    | k + 2, hk => simp [jT] at hk
def st_flat : List Cond := flatC (Cond.and given_1 narrow_1)
def st_tm (i : Nat) : Term := .string "TinMouse$Text" (jSn.getD i (0, "")).1
theorem jZ_start {args : Array Value} {s : State} (hts : ∀ w ∈ lw_tbl, w.before args s = true) (hgv : (Cond.and given_1 narrow_1).before args s = true) : ∃ z : jZT, jZ z (fun q : Nat => s.heap.size ≤ q) s s.heap := by
  have hs : ∀ c ∈ st_flat, c.before args s = true := flat_of_before _ hgv
  have hA : ∀ a : Nat, a < s.heap.size → ¬ (fun q : Nat => s.heap.size ≤ q) a := fun a h => Nat.not_le.mpr h
  have erx : ∀ j : Nat, j < 8 → (Term.elem (.static "TinMouse" "RIGHT" "[I") (.int (Int32.ofNat j))).eval args s none [] s = some (.int (aI rx j)) := by
    intro j hj
    have h : ∀ j ∈ List.range 8, Cond.eq (.elem (.static "TinMouse" "RIGHT" "[I") (.int (Int32.ofNat j))) (.int (aI rx j)) ∈ st_flat := by decide +kernel
    exact va_eqt (hs _ (h j (List.mem_range.mpr hj)))
  have ery : ∀ j : Nat, j < 8 → (Term.elem (.static "TinMouse" "DOWN" "[I") (.int (Int32.ofNat j))).eval args s none [] s = some (.int (aI ry j)) := by
    intro j hj
    have h : ∀ j ∈ List.range 8, Cond.eq (.elem (.static "TinMouse" "DOWN" "[I") (.int (Int32.ofNat j))) (.int (aI ry j)) ∈ st_flat := by decide +kernel
    exact va_eqt (hs _ (h j (List.mem_range.mpr hj)))
  obtain ⟨tt_rx, qrx, TT_rx⟩ := va_Tof (tm := .static "TinMouse" "RIGHT" "[I") (ty := .int) (N := 8) (f := fun j => .int (aI rx j)) (by decide) (hs _ (by decide +kernel)) (va_eqt (z := 8) (hs _ (by decide +kernel))) erx hA
  obtain ⟨tt_ry, qry, TT_ry⟩ := va_Tof (tm := .static "TinMouse" "DOWN" "[I") (ty := .int) (N := 8) (f := fun j => .int (aI ry j)) (by decide) (hs _ (by decide +kernel)) (va_eqt (z := 8) (hs _ (by decide +kernel))) ery hA
  have hstr : (∀ i ∈ List.range 6, Cond.exactly (st_tm i) "java/lang/String" ∈ st_flat) ∧ (∀ i ∈ List.range 6, Cond.eq (.field (st_tm i) "java/lang/String" "coder" "B") (.int 0) ∈ st_flat) ∧ (∀ i ∈ List.range 6, Cond.arrayOf (.field (st_tm i) "java/lang/String" "value" "[B") .byte ∈ st_flat) ∧ (∀ i ∈ List.range 6, Cond.eq (.length (.field (st_tm i) "java/lang/String" "value" "[B")) (.int (Int32.ofNat (jSl.getD i 0))) ∈ st_flat) := by decide +kernel
  have hstr2 : ∀ i ∈ List.range 6, ∀ j ∈ List.range (jSl.getD i 0), Cond.eq (.elem (.field (st_tm i) "java/lang/String" "value" "[B") (.int (Int32.ofNat j))) (.int ((jSb.getD i []).getD j 0)) ∈ st_flat := by decide +kernel
  have hstr3 : ∀ i ∈ List.range 6, ∀ j ∈ List.range 6, i ≠ j → Cond.not (Cond.eq (st_tm i) (st_tm j)) ∈ st_flat ∨ Cond.not (Cond.eq (st_tm j) (st_tm i)) ∈ st_flat := by decide +kernel
  obtain ⟨h1, h2, h3, h4⟩ := hstr
  obtain ⟨aK, aV, S1, S2⟩ := vk_Sof (s := s) (args := args) (N := 6) (tm := st_tm) (len := jSl) (byt := jSb) (A := fun q : Nat => s.heap.size ≤ q) (fun i hi => by rcases (show i = 0 ∨ i = 1 ∨ i = 2 ∨ i = 3 ∨ i = 4 ∨ i = 5 by omega) with rfl | rfl | rfl | rfl | rfl | rfl <;> decide) (fun i hi => hs _ (h1 i (List.mem_range.mpr hi))) (fun i hi => hs _ (h2 i (List.mem_range.mpr hi))) (fun i hi => hs _ (h3 i (List.mem_range.mpr hi))) (fun i hi => hs _ (h4 i (List.mem_range.mpr hi))) (fun i hi j hj => hs _ (hstr2 i (List.mem_range.mpr hi) j (List.mem_range.mpr hj))) (fun i j hi hj hij => (hstr3 i (List.mem_range.mpr hi) j (List.mem_range.mpr hj) hij).imp (hs _) (hs _)) hA
  have hw : ∀ i ∈ List.range 6, Cond.stringRef "TinMouse$Text" (jSn.getD i (0, "")).1 (jSn.getD i (0, "")).2 ∈ lw_tbl := by decide +kernel
  have hnf : ∀ q ∈ jNf, (Cond.fieldLinkNest q.1 q.2.1 q.2.2.1 q.2.2.2.1 q.2.2.2.2.1 q.2.2.2.2.2).onTables = true ∧ Cond.fieldLinkNest q.1 q.2.1 q.2.2.1 q.2.2.2.1 q.2.2.2.2.1 q.2.2.2.2.2 ∈ lw_tbl := by decide +kernel
  have hnm : ∀ q ∈ jNm, (Cond.methodLinkNest q.1 q.2.1 q.2.2.1 q.2.2.2).onTables = true ∧ Cond.methodLinkNest q.1 q.2.1 q.2.2.1 q.2.2.2 ∈ lw_tbl := by decide +kernel
  exact ⟨(tt_rx, tt_ry, aK, aV), ⟨va_Zof (hts _ (by decide +kernel)) (hts _ (by decide +kernel)) qrx hA, TT_rx⟩, ⟨va_Zof (hts _ (by decide +kernel)) (hts _ (by decide +kernel)) qry hA, TT_ry⟩, ⟨va_Zof (hts _ (by decide +kernel)) (hts _ (by decide +kernel)) (va_eqt (z := 1) (hs _ (by decide +kernel))) hA, va_Zqof (hts _ (by decide +kernel)) (hts _ (by decide +kernel)) (hs _ (by decide +kernel)) hA⟩, ⟨S1, fun i hi => vk_R.of (hts _ (hw i (List.mem_range.mpr hi))) (S2 i hi)⟩, fun q hq => va_Nw.of (hnf q hq).1 (hts _ (hnf q hq).2), fun q hq => va_Nw.of (hnm q hq).1 (hts _ (hnm q hq).2)⟩
