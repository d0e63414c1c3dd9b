/-! THE REFUTATION: on the empty script the law's run makes more slots than the posts allow -/
theorem sm_set : ∀ (L : List Nat) (i a : Nat), L[i]? = some a → L.sum = a + (L.set i 0).sum
  | [], i, a, h => by simp at h
  | x :: L, 0, a, h => by simp at h; simp [h]
  | x :: L, i + 1, a, h => by
    have h2 := sm_set L i a (by simpa using h)
    simp only [List.set_cons_succ, List.sum_cons]
    omega
theorem sm_three {L : List Nat} {i j k a b c : Nat} (hi : L[i]? = some a) (hj : L[j]? = some b) (hk : L[k]? = some c) (h1 : i ≠ j) (h2 : i ≠ k) (h3 : j ≠ k) : a + b + c ≤ L.sum := by
  have e1 := sm_set L i a hi
  have e2 := sm_set (L.set i 0) j b (by rw [List.getElem?_set_ne h1]; exact hj)
  have e3 := sm_set ((L.set i 0).set j 0) k c (by rw [List.getElem?_set_ne h3, List.getElem?_set_ne h2]; exact hk)
  omega
theorem sm_at {H : Heap} {n0 a : Nat} {c : Cell} (h : H[a]? = some c) (l : n0 ≤ a) : ((H.toList.drop n0).map (fun c : Cell => c.slots.size))[a - n0]? = some c.slots.size := by
  rw [List.getElem?_map, List.getElem?_drop, show n0 + (a - n0) = a by omega, Array.getElem?_toList, h]
  rfl
theorem not_framed {s : State} {H : Heap} {a1 a2 a3 : Nat} {c1 c2 c3 : Cell} (h1 : H[a1]? = some c1) (h2 : H[a2]? = some c2) (h3 : H[a3]? = some c3) (l1 : s.heap.size ≤ a1) (l2 : s.heap.size ≤ a2) (l3 : s.heap.size ≤ a3) (d1 : a1 ≠ a2) (d2 : a1 ≠ a3) (d3 : a2 ≠ a3) (z1 : c1.slots.size = 18432) (z2 : c2.slots.size = 18432) (z3 : c3.slots.size = 20480) : ∀ (t : State) (o : Outcome), t.heap = H → ¬ Framed s o t [] 42 43678 := by
  intro t o ht hF
  obtain ⟨-, -, -, -, -, -, hs, -⟩ := hF
  have hs : ((t.heap.toList.drop s.heap.size).map (fun c : Cell => c.slots.size)).sum ≤ 43678 := hs
  rw [ht] at hs
  have := sm_three (sm_at h1 l1) (sm_at h2 l2) (sm_at h3 l3) (by omega) (by omega) (by omega)
  omega
def lw_PN (b : Addr) (xs : List Int32) (args : Array Value) (s : State) : Prop := args = #[.ref b] ∧ s.IntsAt b xs ∧ xs.length = 0 ∧ (Jvm.Cond.and given_1 narrow_1).before args s = true
def lw_QN (_ : Array Value) (s : State) (o : Outcome) (t : State) : Prop := ¬ Framed s o t [] 42 43678
def lw_ZN (below : List Frame) (a : Array Value) (s : State) : State → Prop := fun t => ∃ o, t.status = .running ∧ Ended t below o ∧ lw_QN a s o t
theorem lw_retN {p : Program} {l : Launch} {e : Env} {s : State} {m : MethodId} {below : List Frame} {meth : Method} {c : Code} {b : Nat} (hx : p.tables.exec = Jvm.exec) (hb : c.code = code) (hr : meth.sig.returnType = ret) (hlocks : meth.locks = false) {pc : Nat} {H : Heap} (hn : ∀ (t : State) (o : Outcome), t.heap = H → ¬ Framed s o t [] 42 43678) {ls : Array Slot} (hdg : decode code pc = .ok (.ireturn, 1)) : W p l e rmLaw s m #[Value.ref b] below meth c H [] 42 62364 (lw_ZN below #[Value.ref b] s) (F0 m pc ls [.int 1]) := by
  intro T hT X
  obtain ⟨fs, hret, hrun, hended, hW, hframe⟩ := X.leave (v := some (.int 1)) (hlocks := hlocks) (fun h => by rw [hr] at h; cases h)
  have hmeth' : T.vm.method? m = some meth := X.method'
  refine ⟨T.setFrames fs, ?_, .returned (some (.int 1)), hrun, hended, hn _ _ hT⟩
  jvm_step X.here [X.here.top, hx, hb, hdg, hmeth', hr, ret, narrow_b1]
  (try refine ⟨rfl, ?_⟩); (try refine ⟨rfl, ?_⟩)
  first | (intro acts; rw [hret _ acts rfl rfl rfl]) | rw [hret _ _ rfl rfl rfl]
  exact Steps.refl _
set_option maxHeartbeats 4000000 in
set_option maxRecDepth 100000 in
theorem law_short {p : Program} {e : Env} {s : State} {m : MethodId} {below : List Frame} {meth : Method} {c : Code} (l : Launch) {b L : Nat} {xs : Nat → Int32} (hL : L = 0) (C0 : lw_At p s m meth c b L xs) : W p l e rmLaw s m #[Value.ref b] below meth c s.heap [] 0 0 (lw_ZN below #[Value.ref b] s) (entryFrame m ([Value.ref b] : List Value).toArray 4) := by
  obtain ⟨hx, hb, hr, hml, hown, hts0, hX, hbl, hlocks, hgv⟩ := id C0
  obtain ⟨D, cI, cZ, hK⟩ := K_start hts0
  obtain ⟨z, hZ⟩ := jZ_start hts0 hgv
  have hbA : ¬ (fun q : Nat => s.heap.size ≤ q) b := Nat.not_le.mpr hbl
  have hb : c.code = cL_law := hb
  refine law_start l C0 hK hZ (fun h0 h20 h22 h21 h23 h10 h11 h12 h13 h14 h15 h24 h16 h25 h8 h9 h1 h5 h6 h7 h2 h3 h17 h4 h18 h19 h26 h27 k0 h40 h41 h42 h43 h44 h45 h46 h47 h48 h49 h50 h51 h52 g1 g2 td gd sa ik H locs ls hw1 hw2 hP hD hS hl => ?_)
  subst hL
  refine lv_iconst (v := 0) hx hb dL_law_16 (by decide) ?_
  refine lv_istore_n (lv' := [(3, .int 0), (2, .ref k0), (1, .ref h0), (0, .ref b)]) hx hb dL_law_17 rfl hl (by decide) rfl (fun ls hl => ?_)
  refine lv_iload_n hx hb dL_law_18 rfl (lv_at hl 0 rfl) ?_
  refine lv_aload_n hx hb dL_law_19 rfl (lv_at hl 3 rfl) ?_
  refine va_slen hx hb hX hbl hbA hS dL_law_20 ?_
  refine lv_iconst (v := 4) hx hb dL_law_21 (by decide) ?_
  refine lv_isub hx hb dL_law_22 ?_
  refine lv_icmp_gt (tgt := 996) hx hb dL_law_23 (by decide) (fun c1 => ?_) (fun c1 => absurd (by decide) c1)
  refine lv_iconst (v := 1) hx hb dL_law_996 (by decide) ?_
  have e1 : H[h5]? = some (arrV cI 18432 (fun j => .int (aI (fun _ => 0) j))) := hP 17 _ rfl
  have e2 : H[h2]? = some (arrV cI 18432 (fun j => .int (aI (fun _ => 0) j))) := hP 20 _ rfl
  have e3 : H[h48]? = some (arrV cI 20480 (fun j => .int (aI (fun _ => 0) j))) := hP 37 _ rfl
  have l1 : s.heap.size ≤ h5 := hD.2 17 _ rfl
  have l2 : s.heap.size ≤ h2 := hD.2 20 _ rfl
  have l3 : s.heap.size ≤ h48 := hD.2 37 _ rfl
  have d1 : h5 ≠ h2 := fun q => absurd (hD.1 17 20 _ _ rfl rfl q) (by decide)
  have d2 : h5 ≠ h48 := fun q => absurd (hD.1 17 37 _ _ rfl rfl q) (by decide)
  have d3 : h2 ≠ h48 := fun q => absurd (hD.1 20 37 _ _ rfl rfl q) (by decide)
  have z1 := arrV_size cI 18432 (fun j => .int (aI (fun _ => 0) j))
  have z3 := arrV_size cI 20480 (fun j => .int (aI (fun _ => 0) j))
  have hn : ∀ (t : State) (o : Outcome), t.heap = H → ¬ Framed s o t [] 42 43678 := by
    generalize arrV cI 18432 (fun j => .int (aI (fun _ => 0) j)) = A1 at e1 e2 z1
    generalize arrV cI 20480 (fun j => .int (aI (fun _ => 0) j)) = A3 at e3 z3
    exact not_framed e1 e2 e3 l1 l2 l3 d1 d2 d3 z1 z1 z3
  refine va_forget hS.2.2 ?_
  exact lw_retN hx hb hr hlocks hn dL_law_997
set_option maxHeartbeats 4000000 in
theorem lw_walkN (l : Launch) (b : Addr) (xs : List Int32) : MetFree l x (headSpec (Jvm.Cond.code x code maxLocals ret :: tables_1) rmLaw) (lw_PN b xs) (fun _ _ _ _ _ => True) lw_QN := by
  refine MetFree.of_bodyS (code := code) (maxLocals := maxLocals) (ret := ret) (by decide) ?_ ?_
  · intro args s m h hn
    obtain ⟨meth, c, h1, h2, h3, h4, h5, h6, -, -⟩ := Cond.code_spec hn (atoms_spec (ws := Jvm.Cond.code x code maxLocals ret :: tables_1) h _ List.mem_cons_self)
    exact ⟨meth, c, h1, h2, h3, h4, h5, h6⟩
  · intro p e s m args below meth c s₁ B hml0 hP _
    obtain ⟨rfl, hx, hbd, hgv⟩ := hP
    obtain ⟨scr, harrAt, hlist, hof, hsmall⟩ := hx
    obtain ⟨hcb, hkn, -, -⟩ := State.arrayAt?_spec harrAt
    have hown : s.vm.findClass R_law = some m.cls := findClass_of_methodNamed B.named
    have hts0 : ∀ c ∈ (Jvm.Cond.code x code maxLocals ret :: tables_1), c.before #[Value.ref b] s = true := atoms_spec (ws := Jvm.Cond.code x code maxLocals ret :: tables_1) B.pre
    have hts : ∀ w ∈ lw_tbl, w.before #[Value.ref b] s = true := k2_hts_sels lw_privs (fun w hw => hts0 w (List.mem_cons_of_mem _ hw)) lw_privs_ok
    have hml : c.maxLocals = 4 := B.maxLocals_eq (hts0 _ List.mem_cons_self)
    have X₀ : Stand p l e rmLaw s m #[Value.ref b] below meth c s₁ [] 0 0 := Stand.of_body B
    have hh0 : s₁.heap = s.heap := by rw [B.state]; rfl
    have hsz : scr.slots.size = xs.length := by rw [← Array.length_toList, hlist, List.length_map]
    have hval : ∀ j : Nat, j < xs.length → scr.slots[j]? = some (.int (xs.getD j 0)) := fun j hj => by
      rw [← Array.getElem?_toList, hlist]
      simp [hj]
    have hbl : b < s.heap.size := (Array.getElem?_eq_some_iff.mp hcb).1
    have hX : va_X b xs.length (fun j => xs.getD j 0) s s.heap := ⟨scr, hcb, hof, hkn, hsz, hval⟩
    have K : W p l e rmLaw s m #[Value.ref b] below meth c s₁.heap [] 0 0 (lw_ZN below #[Value.ref b] s) (entryFrame m ([Value.ref b] : List Value).toArray 4) := by
      rw [hh0]
      exact law_short l hbd ⟨B.exec, B.bytes, B.returns, hml, hown, hts, hX, hbl, B.notSynchronized, hgv⟩
    obtain ⟨t, a1, o, b1, b2, b3⟩ := K s₁ rfl X₀
    exact ⟨t, o, a1, b1, b2, b3⟩
theorem lw_pre_spec {args : Array Value} {s : State} (h : (Jvm.Cond.and given_1 narrow_1).before args s = true) (hr : rest_1_c.before args s = true) : ∃ (b : Addr) (xs : List Int32), lw_P b xs args s := by
  have hs := flat_of_before _ h
  have hq := flat_of_before _ hr
  have hc : (Cond.count 1).before args s = true := hs _ (by decide +kernel)
  have harr : (Cond.arrayOf (.arg 0) .int).before args s = true := hs _ (by decide +kernel)
  have hle : (Cond.le (.length (.arg 0)) (.int 2048)).before args s = true := hs _ (by decide +kernel)
  have hlen : (Cond.isInt (.length (.arg 0))).before args s = true := hq _ (by decide +kernel)
  have hall : (Cond.all (.arg 0) (.isInt (.elem (.arg 0) (.index 0)))).before args s = true := hq _ (by decide +kernel)
  obtain ⟨b, xs, hb, hx⟩ := State.ints_of_pre rfl harr hlen hall
  have hsm : xs.length < 2 ^ 31 := hx.choose_spec.2.2.2
  have hev : (Term.length (.arg 0)).eval args s none [] s = some (.int xs.length.toInt32) := hx.length_eval hb
  have hv := Cond.le_ints hev (show (Term.int 2048).eval args s none [] s = some (.int 2048) from rfl)
  have hd : xs.length.toInt32 ≤ 2048 := by
    simpa [Cond.before, Cond.holds, hv] using hle
  have hN : xs.length ≤ 2048 := (Int32.ofNat_le_ofNat hsm (by decide)).mp (show Int32.ofNat xs.length ≤ Int32.ofNat 2048 from hd)
  exact ⟨b, xs, Cond.one_arg hc (show args[0]? = some (.ref b) from hb), hx, hN, h⟩
