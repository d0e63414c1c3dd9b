/-! OUR KIT (04): ints as Ints, arrays as functions of an Int, the statics that nobody writes, contracts of methods that read and of methods that write, rows -/
def iI (z : Int) : Int32 := Int32.ofInt z
def lI (z : Int) : Int64 := Int64.ofInt z
def bI (b : Bool) : Int := if b then 1 else 0
def aI (g : Int → Int) : Nat → Int32 := fun k => iI (g (k : Int))
def upZ (g : Int → Int) (i v : Int) : Int → Int := fun k => if k = i then v else g k
theorem upZ_s (g : Int → Int) (i v : Int) : upZ g i v i = v := if_pos rfl
theorem upZ_n {g : Int → Int} {i v k : Int} (h : k ≠ i) : upZ g i v k = g k := if_neg h
theorem bI_t : bI true = 1 := rfl
theorem bI_f : bI false = 0 := rfl
theorem bI_rng (b : Bool) : 0 ≤ bI b ∧ bI b ≤ 1 := by cases b <;> decide
theorem iI_add (a b : Int) : iI a + iI b = iI (a + b) := (Int32.ofInt_add a b).symm
theorem iI_sub (a b : Int) : iI a - iI b = iI (a - b) := (Int32.ofInt_sub a b).symm
theorem iI_mul (a b : Int) : iI a * iI b = iI (a * b) := (Int32.ofInt_mul a b).symm
theorem iI_neg (a : Int) : -iI a = iI (-a) := Int32.neg_ofInt
theorem iI_toInt {a : Int} (h : -2147483648 ≤ a ∧ a < 2147483648) : (iI a).toInt = a := Int32.toInt_ofInt_of_le (by omega) (by omega)
theorem iI_nat (n : Nat) : iI (n : Int) = nI n := Int32.ofInt_eq_ofNat
theorem iI_of (x : Int32) : ∃ a : Int, x = iI a ∧ -2147483648 ≤ a ∧ a < 2147483648 := by
  refine ⟨x.toInt, (Int32.ofInt_toInt x).symm, ?_, ?_⟩
  · have := x.le_toInt; omega
  · have := x.toInt_lt; omega
theorem iI_inj {a b : Int} (h : (-2147483648 ≤ a ∧ a < 2147483648) ∧ (-2147483648 ≤ b ∧ b < 2147483648)) : iI a = iI b ↔ a = b := by
  rw [← Int32.toInt_inj, iI_toInt h.1, iI_toInt h.2]
theorem iI_lt {a b : Int} (h : (-2147483648 ≤ a ∧ a < 2147483648) ∧ (-2147483648 ≤ b ∧ b < 2147483648)) : iI a < iI b ↔ a < b := by
  rw [Int32.lt_iff_toInt_lt, iI_toInt h.1, iI_toInt h.2]
theorem iI_le {a b : Int} (h : (-2147483648 ≤ a ∧ a < 2147483648) ∧ (-2147483648 ≤ b ∧ b < 2147483648)) : iI a ≤ iI b ↔ a ≤ b := by
  rw [Int32.le_iff_toInt_le, iI_toInt h.1, iI_toInt h.2]
theorem iI_clamp {a : Int} (h : 0 ≤ a ∧ a < 2147483648) : (iI a).toNatClampNeg = a.toNat := by
  show (iI a).toInt.toNat = a.toNat
  rw [iI_toInt (by omega)]
theorem iI_in {a : Int} {n : Nat} (h : 0 ≤ a ∧ a < (n : Int) ∧ n < 2147483648) : vp_in (iI a) n := by
  rw [vp_in_iff, iI_toInt (by omega)]
  omega
theorem iI_div {a b : Int} (h : 0 ≤ a ∧ a < 2147483648 ∧ 0 < b ∧ b < 2147483648) : iI a / iI b = iI (a / b) := by
  obtain ⟨n, rfl⟩ := Int.eq_ofNat_of_zero_le h.1
  obtain ⟨k, rfl⟩ := Int.eq_ofNat_of_zero_le (Int.le_of_lt h.2.2.1)
  rw [iI_nat, iI_nat, pk_div (by omega) (by omega) (by omega), ← iI_nat]
  rfl
theorem iI_rem {a b : Int} (h : 0 ≤ a ∧ a < 2147483648 ∧ 0 < b ∧ b < 2147483648) : iI a - iI a / iI b * iI b = iI (a % b) := by
  rw [iI_div h, iI_mul, iI_sub]
  congr 1
  have := Int.emod_add_mul_ediv a b
  have h2 := Int.mul_comm b (a / b)
  omega
theorem iI_len (n : Nat) : Int32.ofNat n = iI (n : Int) := (iI_nat n).symm
theorem lI_add (a b : Int) : lI a + lI b = lI (a + b) := (Int64.ofInt_add a b).symm
theorem lI_sub (a b : Int) : lI a - lI b = lI (a - b) := (Int64.ofInt_sub a b).symm
theorem lI_mul (a b : Int) : lI a * lI b = lI (a * b) := (Int64.ofInt_mul a b).symm
theorem lI_neg (a : Int) : -lI a = lI (-a) := (Int64.ofInt_neg a).symm
theorem lI_toInt {a : Int} (h : -9223372036854775808 ≤ a ∧ a < 9223372036854775808) : (lI a).toInt = a := Int64.toInt_ofInt_of_le (by omega) (by omega)
theorem lI_inj {a b : Int} (h : (-9223372036854775808 ≤ a ∧ a < 9223372036854775808) ∧ (-9223372036854775808 ≤ b ∧ b < 9223372036854775808)) : lI a = lI b ↔ a = b := by
  rw [← Int64.toInt_inj, lI_toInt h.1, lI_toInt h.2]
theorem lI_lt {a b : Int} (h : (-9223372036854775808 ≤ a ∧ a < 9223372036854775808) ∧ (-9223372036854775808 ≤ b ∧ b < 9223372036854775808)) : lI a < lI b ↔ a < b := by
  rw [Int64.lt_iff_toInt_lt, lI_toInt h.1, lI_toInt h.2]
theorem lI_of (x : Int64) : ∃ a : Int, x = lI a ∧ -9223372036854775808 ≤ a ∧ a < 9223372036854775808 := by
  refine ⟨x.toInt, (Int64.ofInt_toInt x).symm, ?_, ?_⟩
  · have := x.le_toInt; omega
  · have := x.toInt_lt; omega
theorem lI_nat (n : Nat) : lI (n : Int) = lN n := Int64.ofInt_eq_ofNat
theorem lI_tdiv {a b : Int} (h : (-9223372036854775807 ≤ a ∧ a < 9223372036854775808) ∧ (0 < b ∧ b < 9223372036854775808)) : lI a / lI b = lI (a.tdiv b) := by
  have e : (lI b) ≠ -1 := by
    intro q
    have q2 := congrArg Int64.toInt q
    rw [lI_toInt (by omega)] at q2
    have : (-1 : Int64).toInt = -1 := by decide
    omega
  apply Int64.toInt.inj
  rw [Int64.toInt_div_of_ne_right _ _ e, lI_toInt (by omega), lI_toInt (by omega), lI_toInt]
  have h1 := Int.natAbs_tdiv_le_natAbs a b
  omega
theorem lI_rem {a b : Int} (h : 0 ≤ a ∧ a < 9223372036854775808 ∧ 0 < b ∧ b < 9223372036854775808) : lI a - lI a / lI b * lI b = lI (a % b) := by
  rw [lI_tdiv (by omega), lI_mul, lI_sub]
  congr 1
  rw [Int.tdiv_eq_ediv_of_nonneg h.1]
  have := Int.emod_add_mul_ediv a b
  have h2 := Int.mul_comm b (a / b)
  omega
theorem lI_ofI {a : Int} (h : -2147483648 ≤ a ∧ a < 2147483648) : (iI a).toInt64 = lI a := by
  apply Int64.toInt.inj
  rw [Int32.toInt_toInt64, iI_toInt h, lI_toInt (by omega)]
theorem iI_ofL (a : Int) : (lI a).toInt32 = iI a := Int64.toInt32_ofInt
theorem lI_cmp {a b : Int} (h : (-9223372036854775808 ≤ a ∧ a < 9223372036854775808) ∧ (-9223372036854775808 ≤ b ∧ b < 9223372036854775808)) : lg_cmp (lI a) (lI b) = iI (if b < a then 1 else if a = b then 0 else -1) := by
  unfold lg_cmp
  by_cases h1 : b < a
  · rw [if_pos h1, if_pos ((lI_lt ⟨h.2, h.1⟩).mpr h1)]; rfl
  · rw [if_neg h1, if_neg (fun q => h1 ((lI_lt ⟨h.2, h.1⟩).mp q))]
    by_cases h2 : a = b
    · rw [if_pos h2, if_pos ((lI_inj h).mpr h2)]; rfl
    · rw [if_neg h2, if_neg (fun q => h2 ((lI_inj h).mp q))]; rfl
theorem aI_upd (g : Int → Int) {i : Int} (v : Int) (hi : 0 ≤ i) : upd (aI g) i.toNat (iI v) = aI (upZ g i v) := by
  funext k
  unfold upd aI upZ
  by_cases h : k = i.toNat
  · rw [if_pos h, if_pos (by omega)]
  · rw [if_neg h, if_neg (by omega)]
theorem aI_at (g : Int → Int) {i : Int} (h : 0 ≤ i ∧ i < 2147483648) : aI g (iI i).toNatClampNeg = iI (g i) := by
  rw [iI_clamp h]
  unfold aI
  rw [show ((i.toNat : Nat) : Int) = i by omega]
theorem jo_i {a b : Int} (h : a = b) : some (Value.int (iI a)) = some (Value.int (iI b)) := by rw [h]
theorem jo_l {a b : Int} (h : a = b) : some (Value.long (lI a)) = some (Value.long (lI b)) := by rw [h]
theorem jn_b (b : Bool) : narrow .boolean (.int (iI (bI b))) = .int (iI (bI b)) := by cases b <;> rfl
theorem jn_0 : narrow .boolean (.int (iI 0)) = .int (iI 0) := rfl
theorem jn_1 : narrow .boolean (.int (iI 1)) = .int (iI 1) := rfl
theorem jf_b (b : Bool) : fits .boolean (.int (iI (bI b))) = true := by cases b <;> rfl
/-! the statics -/
def rx (d : Int) : Int := if d = 1 ∨ d = 2 ∨ d = 3 then 1 else if d = 5 ∨ d = 6 ∨ d = 7 then -1 else 0
def ry (d : Int) : Int := if d = 0 ∨ d = 1 ∨ d = 7 then -1 else if d = 3 ∨ d = 4 ∨ d = 5 then 1 else 0
abbrev jZT : Type := Nat × Nat × (Nat → Nat) × (Nat → Nat)
def jSn : List (Nat × String) := [(78, "table"), (80, "hole"), (82, "book"), (84, "bell"), (86, "toy"), (88, "start")]
def jSl : List Nat := [5, 4, 4, 4, 3, 5]
def jSb : List (List Int32) := [[116, 97, 98, 108, 101], [104, 111, 108, 101], [98, 111, 111, 107], [98, 101, 108, 108], [116, 111, 121], [115, 116, 97, 114, 116]]
def jNf : List (String × Nat × String × String × String × String) := [("TinMouse$Table", 62, "TinMouse", "RIGHT", "[I", "TinMouse"), ("TinMouse$Table", 69, "TinMouse", "DOWN", "[I", "TinMouse")]
def jNm : List (String × Nat × MethodName × String) := [("TinMouse", 11, ⟨"TinMouse$Text", "<init>", "()V"⟩, "TinMouse"), ("TinMouse", 37, ⟨"TinMouse$Now", "<init>", "()V"⟩, "TinMouse"), ("TinMouse", 44, ⟨"TinMouse$Image", "<init>", "()V"⟩, "TinMouse"), ("TinMouse$Image", 9, ⟨"TinMouse$Now", "<init>", "()V"⟩, "TinMouse"), ("TinMouse", 54, ⟨"TinMouse$Ways", "<init>", "()V"⟩, "TinMouse"), ("TinMouse", 98, ⟨"TinMouse$Keys", "<init>", "()V"⟩, "TinMouse"), ("TinMouse$Text", 19, ⟨"TinMouse", "set", "([III)V"⟩, "TinMouse"), ("TinMouse$Text", 29, ⟨"TinMouse", "at", "([II)I"⟩, "TinMouse"), ("TinMouse$Reader", 84, ⟨"TinMouse", "at", "([II)I"⟩, "TinMouse"), ("TinMouse$Reader", 64, ⟨"TinMouse", "set", "([III)V"⟩, "TinMouse"), ("TinMouse$Table", 58, ⟨"TinMouse", "set", "([III)V"⟩, "TinMouse"), ("TinMouse$Table", 65, ⟨"TinMouse", "at", "([II)I"⟩, "TinMouse"), ("TinMouse$Ways", 29, ⟨"TinMouse", "set", "([III)V"⟩, "TinMouse"), ("TinMouse$Marks", 21, ⟨"TinMouse", "at", "([II)I"⟩, "TinMouse"), ("TinMouse$Marks", 33, ⟨"TinMouse", "set", "([III)V"⟩, "TinMouse"), ("TinMouse$Ways", 51, ⟨"TinMouse", "at", "([II)I"⟩, "TinMouse"), ("TinMouse$Ways", 55, ⟨"TinMouse", "cellOf", "(I)I"⟩, "TinMouse"), ("TinMouse$Ways", 59, ⟨"TinMouse", "standOf", "(III)I"⟩, "TinMouse"), ("TinMouse$Lap", 40, ⟨"TinMouse", "cellOf", "(I)I"⟩, "TinMouse"), ("TinMouse$Starts", 58, ⟨"TinMouse", "standOf", "(III)I"⟩, "TinMouse"), ("TinMouse$Starts", 73, ⟨"TinMouse", "set", "([III)V"⟩, "TinMouse"), ("TinMouse$Starts", 103, ⟨"TinMouse", "cellOf", "(I)I"⟩, "TinMouse"), ("TinMouse$Starts", 85, ⟨"TinMouse", "at", "([II)I"⟩, "TinMouse"), ("TinMouse$Keys", 22, ⟨"TinMouse", "set", "([III)V"⟩, "TinMouse"), ("TinMouse$Keys", 26, ⟨"TinMouse", "at", "([II)I"⟩, "TinMouse"), ("TinMouse$Keys", 43, ⟨"TinMouse", "divisorOf", "(JJ)J"⟩, "TinMouse")]
def jZ (z : jZT) (A : Nat → Prop) (U : State) (H : Heap) : Prop :=
  (va_Z "TinMouse" "RIGHT" "[I" (.ref z.1) A U H ∧ va_T .int z.1 8 (fun j => .int (aI rx j)) A U H) ∧
  (va_Z "TinMouse" "DOWN" "[I" (.ref z.2.1) A U H ∧ va_T .int z.2.1 8 (fun j => .int (aI ry j)) A U H) ∧
  (va_Z "java/lang/String" "COMPACT_STRINGS" "Z" (.int 1) A U H ∧ va_Zq "jdk/internal/util/Preconditions" "SIOOBE_FORMATTER" "Ljava/util/function/BiFunction;" A U H) ∧
  (vk_S 6 jSl jSb z.2.2.1 z.2.2.2 A U H ∧ ∀ i : Nat, i < 6 → vk_R "TinMouse$Text" (jSn.getD i (0, "")).1 (jSn.getD i (0, "")).2 (z.2.2.1 i) U) ∧
  (∀ q ∈ jNf, va_Nw (.fieldLinkNest q.1 q.2.1 q.2.2.1 q.2.2.2.1 q.2.2.2.2.1 q.2.2.2.2.2) U) ∧ (∀ q ∈ jNm, va_Nw (.methodLinkNest q.1 q.2.1 q.2.2.1 q.2.2.2) U)
theorem jZ.same {z : jZT} {A : Nat → Prop} {u U : State} {H : Heap} (hv : u.vm = U.vm) (h : jZ z A u H) : jZ z A U H := by
  obtain ⟨⟨h1, h2⟩, ⟨h3, h4⟩, ⟨h5, h6⟩, ⟨h7, h8⟩, h9, h10⟩ := h
  have ha : u.vm.Alike U.vm := by rw [hv]; exact Vm.Alike.refl _
  exact ⟨⟨h1.moved ha, h2.moved ha⟩, ⟨h3.moved ha, h4.moved ha⟩, ⟨h5.moved ha, h6.moved ha⟩, ⟨h7.moved ha, fun i hi => vk_R.same hv.symm (h8 i hi)⟩, fun q hq => va_Nw.same rfl hv (h9 q hq), fun q hq => va_Nw.same rfl hv (h10 q hq)⟩
theorem jZ.warm {z : jZT} {A : Nat → Prop} {s U : State} {H : Heap} (hW : s.WarmedH U.vm) (h : jZ z A s H) : jZ z A U H := by
  obtain ⟨⟨h1, h2⟩, ⟨h3, h4⟩, ⟨h5, h6⟩, ⟨h7, h8⟩, h9, h10⟩ := h
  have ha : s.vm.Alike U.vm := hW.alike
  exact ⟨⟨h1.moved ha, h2.moved ha⟩, ⟨h3.moved ha, h4.moved ha⟩, ⟨h5.moved ha, h6.moved ha⟩, ⟨h7.moved ha, fun i hi => vk_R.warm hW (h8 i hi)⟩, fun q hq => va_Nw.warmF hW (h9 q hq), fun q hq => va_Nw.warmM hW (h10 q hq)⟩
theorem jZ.kept {z : jZT} {A : Nat → Prop} {U : State} {H H1 : Heap} (h : jZ z A U H) (hq : ∀ a : Nat, a < H.size → ¬ A a → H1[a]? = H[a]?) : jZ z A U H1 := by
  obtain ⟨⟨h1, h2⟩, ⟨h3, h4⟩, ⟨h5, h6⟩, ⟨h7, h8⟩, h9, h10⟩ := h
  exact ⟨⟨h1.kept hq, h2.kept hq⟩, ⟨h3.kept hq, h4.kept hq⟩, ⟨h5.kept hq, h6.kept hq⟩, ⟨h7.kept hq, h8⟩, h9, h10⟩
theorem jZ.narrow {z : jZT} {A B : Nat → Prop} {U : State} {H : Heap} (h : jZ z A U H) (hq : ∀ q, B q → A q) : jZ z B U H := by
  obtain ⟨⟨h1, h2⟩, ⟨h3, h4⟩, ⟨h5, h6⟩, ⟨h7, h8⟩, h9, h10⟩ := h
  exact ⟨⟨h1.narrow hq, h2.narrow hq⟩, ⟨h3.narrow hq, h4.narrow hq⟩, ⟨h5.narrow hq, h6.narrow hq⟩, ⟨h7.narrow hq, h8⟩, h9, h10⟩
/-! contracts -/
abbrev jT (cI cZ : ClassId) : List (ClassId × FieldType) := [(cI, .int), (cZ, .boolean)]
def jPre (D : va_G) (cI cZ : ClassId) (z : jZT) (w : va_W) (sz : Nat) : State → Prop := fun U => U.heap.size = sz ∧ va_P D vwCl w U.heap ∧ va_K D vwCl (jT cI cZ) U ∧ va_D (fun _ => True) w ∧ jZ z (va_A w sz) U U.heap
theorem jPre_blind {av : List Value} {D : va_G} {cI cZ : ClassId} {z : jZT} {w : va_W} {sz : Nat} : FrameBlind (va_Pc av (jPre D cI cZ z w sz)) := fun a U g mk q => by
  obtain ⟨q0, q1, qP, qK, qD, qZ⟩ := q
  exact ⟨q0, q1, qP, va_K.moved (u := U) (U := U.calling g mk a) (Vm.Alike.refl U.vm) qK, qD, jZ.same (u := U) (U := U.calling g mk a) rfl qZ⟩
def jQr (v : Option Value) : Array Value → State → Outcome → State → Prop := fun _ st o t => o = .returned v ∧ t.heap = st.heap
def jQm {S : Type} (D : va_G) (A : Nat → Prop) (ov : S → Option Value) (post : S → Prop) (w' : S → va_W) : Array Value → State → Outcome → State → Prop := fun _ st o t => (∃ u : S, o = .returned (ov u) ∧ post u ∧ va_P D vwCl (w' u) t.heap) ∧ va_F A st t
abbrev jRd (l : Launch) (y : MethodName) (ws : List Cond) (rm : Room) (As : List Value) (D : va_G) (cI cZ : ClassId) (z : jZT) (w : va_W) (v : Option Value) : Prop :=
  ∀ sz : Nat, Met l y ws rm (va_Pc As (jPre D cI cZ z w sz)) (jQr v) 0 0 (fun _ => False)
abbrev jMu {S : Type} (l : Launch) (y : MethodName) (ws : List Cond) (rm : Room) (As : List Value) (D : va_G) (cI cZ : ClassId) (z : jZT) (w : va_W) (ov : S → Option Value) (post : S → Prop) (w' : S → va_W) : Prop :=
  ∀ sz : Nat, Met l y ws rm (va_Pc As (jPre D cI cZ z w sz)) (jQm D (va_A w sz) ov post w') 0 0 (va_A w sz)
def jF (p : Program) (s : State) (m : MethodId) (meth : Method) (c : Code) (cc : ByteArray) (n : Nat) (ret : Option FieldType) (ws : List Cond) (own : String) (args : Array Value) : Prop :=
  p.tables.exec = Jvm.exec ∧ c.code = cc ∧ meth.sig.returnType = ret ∧ c.maxLocals = n ∧ s.vm.findClass own = some m.cls ∧ (∀ w ∈ ws, w.before args s = true) ∧ meth.locks = false
theorem jRd_of {l : Launch} {y : MethodName} {ws ws' : List Cond} {rm : Room} {As : List Value} {D : va_G} {cI cZ : ClassId} {z : jZT} {w : va_W} {v : Option Value} {cc : ByteArray} {n : Nat} {ret : Option FieldType} (hy : plainName y.cls = true) (hw : ws = Cond.code y cc n ret :: ws') (hn : (lg_sl As).length ≤ n)
    (body : ∀ (p : Program) (e : Env) (s : State) (m : MethodId) (below : List Frame) (meth : Method) (c : Code) (A : Nat → Prop) (ls : Array Slot) (args : Array Value) (Q : State → Prop), Q = MQ below (jQr v) args s 0 0 (fun _ => False) → jF p s m meth c cc n ret ws y.cls args → (∀ q : Nat, s.heap.size ≤ q → A q) → jZ z A s s.heap → va_P D vwCl w s.heap → va_K D vwCl (jT cI cZ) s → va_D A w → va_S A s.heap s.heap [] → lv_has ls n (lv_args 0 As) →
      W p l e rm s m args below meth c s.heap [] 0 0 Q (F0 m 0 ls [])) : jRd l y ws rm As D cI cZ z w v := by
  intro sz
  refine Met.ofW (cc := cc) (maxL := n) (ret := ret) hy hw ?_
  intro p e s m args below meth c s₁ B hml hv
  obtain ⟨rfl, hsz, hP, hK, hD, hZ⟩ := hv
  subst hsz
  rw [lg_entry_eq]
  exact body p e s m below meth c (va_A w s.heap.size) _ _ _ rfl ⟨B.exec, B.bytes, B.returns, hml, findClass_of_methodNamed B.named, atoms_spec (ws := ws) B.pre, B.notSynchronized⟩ (fun q h => Or.inr h) hZ hP hK hD.self va_S.rf (lv_entry As hn)
theorem jMu_of {S : Type} {l : Launch} {y : MethodName} {ws ws' : List Cond} {rm : Room} {As : List Value} {D : va_G} {cI cZ : ClassId} {z : jZT} {w : va_W} {ov : S → Option Value} {post : S → Prop} {w' : S → va_W} {cc : ByteArray} {n : Nat} {ret : Option FieldType} (hy : plainName y.cls = true) (hw : ws = Cond.code y cc n ret :: ws') (hn : (lg_sl As).length ≤ n)
    (body : ∀ (p : Program) (e : Env) (s : State) (m : MethodId) (below : List Frame) (meth : Method) (c : Code) (A : Nat → Prop) (ls : Array Slot) (args : Array Value) (Q : State → Prop), Q = MQ below (jQm D A ov post w') args s 0 0 A → jF p s m meth c cc n ret ws y.cls args → (∀ q : Nat, s.heap.size ≤ q → A q) → jZ z A s s.heap → va_P D vwCl w s.heap → va_K D vwCl (jT cI cZ) s → va_D A w → va_S A s.heap s.heap [] → lv_has ls n (lv_args 0 As) →
      W p l e rm s m args below meth c s.heap [] 0 0 Q (F0 m 0 ls [])) : jMu l y ws rm As D cI cZ z w ov post w' := by
  intro sz
  refine Met.ofW (cc := cc) (maxL := n) (ret := ret) hy hw ?_
  intro p e s m args below meth c s₁ B hml hv
  obtain ⟨rfl, hsz, hP, hK, hD, hZ⟩ := hv
  subst hsz
  rw [lg_entry_eq]
  exact body p e s m below meth c (va_A w s.heap.size) _ _ _ rfl ⟨B.exec, B.bytes, B.returns, hml, findClass_of_methodNamed B.named, atoms_spec (ws := ws) B.pre, B.notSynchronized⟩ (fun q h => Or.inr h) hZ hP hK hD.self va_S.rf (lv_entry As hn)
/-! a caller's world behind a call: the callee's cells at their places -/
def jset (ws : va_W) : List Nat → va_W → va_W
  | i :: is, e :: es => jset (ws.set i e) is es
  | [], _ => ws
  | _ :: _, [] => ws
theorem jset_at : ∀ (is : List Nat) (w1 : va_W) (ws : va_W), is.map (fun i => (ws[i]?).map Prod.fst) = (w1.map Prod.fst).map some → ∀ (k : Nat) (q : Nat × va_E), (jset ws is w1)[k]? = some q → ∃ q0, ws[k]? = some q0 ∧ q0.1 = q.1 ∧ ((∃ j : Nat, w1[j]? = some q) ∨ (q = q0 ∧ k ∉ is))
  | [], w1, ws, _, k, q, hk => ⟨q, by rw [jset] at hk; exact hk, rfl, Or.inr ⟨rfl, List.not_mem_nil⟩⟩
  | i :: is, [], ws, h, k, q, hk => by simp at h
  | i :: is, e :: es, ws, h, k, q, hk => by
    rw [List.map_cons, List.map_cons, List.map_cons] at h
    obtain ⟨h1, h2⟩ := List.cons.inj h
    rw [jset] at hk
    have hi : ∃ c, ws[i]? = some c ∧ c.1 = e.1 := by
      cases hc : ws[i]? with
      | none => rw [hc] at h1; cases h1
      | some c => rw [hc] at h1; exact ⟨c, rfl, Option.some.inj h1⟩
    obtain ⟨c, hc, hce⟩ := hi
    have hl := (List.getElem?_eq_some_iff.mp hc).1
    have key : ∀ j : Nat, ((ws.set i e)[j]?).map Prod.fst = (ws[j]?).map Prod.fst := by
      intro j
      by_cases hj : j = i
      · subst hj
        rw [List.getElem?_set_self hl, hc]
        exact congrArg some hce.symm
      · rw [List.getElem?_set_ne (Ne.symm hj)]
    obtain ⟨q0, g1, g2, g3⟩ := jset_at is es (ws.set i e) (by rw [← h2]; exact List.map_congr_left (fun j _ => key j)) k q hk
    by_cases hki : k = i
    · subst hki
      rw [List.getElem?_set_self hl] at g1
      cases g1
      refine ⟨c, hc, hce.trans g2, Or.inl ?_⟩
      rcases g3 with ⟨j, g3⟩ | ⟨g3, -⟩
      · exact ⟨j + 1, g3⟩
      · exact ⟨0, by rw [g3]; rfl⟩
    · rw [List.getElem?_set_ne (Ne.symm hki)] at g1
      refine ⟨q0, g1, g2, ?_⟩
      rcases g3 with ⟨j, g3⟩ | ⟨g3, g4⟩
      · exact Or.inl ⟨j + 1, g3⟩
      · exact Or.inr ⟨g3, fun z => (List.mem_cons.mp z).elim hki g4⟩
theorem j_pos {ws wc : va_W} {is : List Nat} (hC : is.map (fun i => ws[i]?) = wc.map some) : ∀ (k : Nat) (q : Nat × va_E), wc[k]? = some q → ∃ i, is[k]? = some i ∧ ws[i]? = some q := by
  intro k q hq
  have h1 : (is.map (fun i => ws[i]?))[k]? = some (some q) := by rw [hC, List.getElem?_map, hq]; rfl
  rw [List.getElem?_map] at h1
  cases hi : is[k]? with
  | none => rw [hi] at h1; cases h1
  | some i => rw [hi] at h1; exact ⟨i, rfl, Option.some.inj h1⟩
theorem j_join {A : Nat → Prop} {D : va_G} {cl : List vw_C} {ws wc w1 : va_W} {H H1 : Heap} (hP : va_P D cl ws H) (hD : va_D A ws) (isC : List Nat) (hC : isC.map (fun i => ws[i]?) = wc.map some) (hw : w1.map Prod.fst = wc.map Prod.fst)
    (hk : ∀ q : Nat, q < H.size → ¬ va_A wc H.size q → H1[q]? = H[q]?) (hP1 : va_P D cl w1 H1) : va_P D cl (jset ws isC w1) H1 ∧ va_D A (jset ws isC w1) := by
  have hC2 : isC.map (fun i => (ws[i]?).map Prod.fst) = (w1.map Prod.fst).map some := by
    rw [hw]
    have := congrArg (fun l => l.map (fun o => o.map Prod.fst)) hC
    simpa [List.map_map, Function.comp_def] using this
  have key := jset_at isC w1 ws hC2
  refine ⟨fun k q hq => ?_, fun i j x y hi hj hxy => ?_, fun k q hq => ?_⟩
  · obtain ⟨q0, g1, g2, g3⟩ := key k q hq
    rcases g3 with ⟨j, g3⟩ | ⟨rfl, g4⟩
    · exact hP1 j q g3
    · have hl := (hP k _ g1).lt
      refine (hP k _ g1).kept (hk _ hl (fun h => ?_))
      rcases h with ⟨k2, e, h⟩ | h
      · obtain ⟨j, h3, h4⟩ := j_pos hC k2 _ h
        have hij := hD.1 k j q _ g1 h4 rfl
        subst hij
        exact g4 (List.mem_of_getElem? h3)
      · omega
  · obtain ⟨x0, a1, a2, -⟩ := key i x hi
    obtain ⟨y0, b1, b2, -⟩ := key j y hj
    exact hD.1 i j x0 y0 a1 b1 (a2.trans (hxy.trans b2.symm))
  · obtain ⟨q0, g1, g2, -⟩ := key k q hq
    rw [← g2]
    exact hD.2 k q0 g1
theorem jP_sub {D : va_G} {cl : List vw_C} {ws wc : va_W} {H : Heap} (hP : va_P D cl ws H) (isC : List Nat) (hC : isC.map (fun i => ws[i]?) = wc.map some) : va_P D cl wc H := fun k q hk => by
  obtain ⟨i, -, hi⟩ := j_pos hC k q hk
  exact hP i q hi
theorem jPre_call {D : va_G} {cI cZ : ClassId} {z : jZT} {A : Nat → Prop} {ws wc : va_W} {s : State} {H : Heap} {locs : List Loc} (hP : va_P D vwCl ws H) (hD : va_D A ws) (hK : va_K D vwCl (jT cI cZ) s) (hS : va_S A s.heap H locs) (hZ : jZ z A s s.heap) (hA : ∀ q : Nat, s.heap.size ≤ q → A q) (isC : List Nat) (hC : isC.map (fun i => ws[i]?) = wc.map some) (hn : va_nd isC = true) {U : State} (hU : U.heap = H) (hW : s.WarmedH U.vm) : jPre D cI cZ z wc H.size U := by
  refine ⟨by rw [hU], by rw [hU]; exact jP_sub hP isC hC, va_K.moved hW.alike hK, (hD.sub isC hn hC).weaken (fun _ _ _ _ => trivial), ?_⟩
  rw [hU]
  exact ((hZ.kept hS.2.1).narrow (va_free hD hS hA isC hC)).warm hW
theorem j_preS {D : va_G} {cI cZ : ClassId} {z : jZT} {A : Nat → Prop} {ws wc : va_W} {s : State} {H : Heap} {locs : List Loc} {As : List Value} (hP : va_P D vwCl ws H) (hD : va_D A ws) (hK : va_K D vwCl (jT cI cZ) s) (hS : va_S A s.heap H locs) (hZ : jZ z A s s.heap) (hA : ∀ q : Nat, s.heap.size ≤ q → A q) (isC : List Nat) (hC : isC.map (fun i => ws[i]?) = wc.map some) (hn : va_nd isC = true) : PreS s H (va_Pc As (jPre D cI cZ z wc H.size)) As :=
  ⟨jPre_blind, fun _ hU hW => ⟨rfl, jPre_call hP hD hK hS hZ hA isC hC hn hU hW⟩⟩
theorem j_preV {D : va_G} {cI cZ : ClassId} {z : jZT} {A : Nat → Prop} {ws wc : va_W} {s : State} {H : Heap} {locs : List Loc} {As : List Value} (hP : va_P D vwCl ws H) (hD : va_D A ws) (hK : va_K D vwCl (jT cI cZ) s) (hS : va_S A s.heap H locs) (hZ : jZ z A s s.heap) (hA : ∀ q : Nat, s.heap.size ≤ q → A q) (isC : List Nat) (hC : isC.map (fun i => ws[i]?) = wc.map some) (hn : va_nd isC = true) (q0 : Nat) {b ci : Nat} {fs : List Value} {C : String} {T : u_T} {N : Nat} (hr : ws[q0]? = some (b, .inr (ci, fs))) (hc : vwCl[ci]? = some (C, T, N)) : PreV s H C b (va_Pc (.ref b :: As) (jPre D cI cZ z wc H.size)) As :=
  ⟨jPre_blind, va_recv hK hP hc hr, fun _ hU hW => ⟨rfl, jPre_call hP hD hK hS hZ hA isC hC hn hU hW⟩⟩
section JROWS
variable {p : Program} {l : Launch} {e : Env} {R : Room} {s : State} {m : MethodId} {args : Array Value} {below : List Frame} {meth : Method} {c : Code} {H : Heap} {locs : List Loc} {cells slots : Nat} {Q : State → Prop}
variable {cc : ByteArray} {pc : Nat} {ls : Array Slot} {rest st0 : List Value} {D : va_G} {A : Nat → Prop} {ws : va_W} {a : Nat} {tys : List (ClassId × FieldType)} {cl : List vw_C}
/-! calls -/
theorem j_rd {v : Value} {av : Array Value} (hr : va_Run p l e R s m args below meth c H locs cells slots 0 0 (F0 m pc ls st0) rest (jQr (some v) av) (fun _ => False)) (kk : W p l e R s m args below meth c H locs cells slots Q (F0 m (pc + 3) ls (v :: rest))) : W p l e R s m args below meth c H locs cells slots Q (F0 m pc ls st0) := by
  intro T hT X
  obtain ⟨v', st₀, t, T', L, h0, X', hL, e1, e2, ⟨hv, hh⟩, st⟩ := hr T hT X
  cases hv
  obtain ⟨t2, a1, b1⟩ := kk T' (by rw [e1, hh, h0]) (Stand.forget X' (fun q h => (hL q h).elim))
  exact ⟨t2, st t2 a1, b1⟩
theorem j_mu {S : Type} {ov : S → Option Value} {post : S → Prop} {w' : S → va_W} {wc : va_W} {av : Array Value} (hr : va_Run p l e R s m args below meth c H locs cells slots 0 0 (F0 m pc ls st0) rest (jQm D (va_A wc H.size) ov post w' av) (va_A wc H.size)) (hP : va_P D vwCl ws H) (hD : va_D A ws) (hS : va_S A s.heap H locs) (hA : ∀ q : Nat, s.heap.size ≤ q → A q) (isC : List Nat) (hC : isC.map (fun i => ws[i]?) = wc.map some) (hw : ∀ u, (w' u).map Prod.fst = wc.map Prod.fst)
    (kk : ∀ (u : S) (H1 : Heap) (locs1 : List Loc), post u → va_P D vwCl (jset ws isC (w' u)) H1 → va_D A (jset ws isC (w' u)) → va_S A s.heap H1 locs1 → W p l e R s m args below meth c H1 locs1 cells slots Q (F0 m (pc + 3) ls ((ov u).toList ++ rest))) : W p l e R s m args below meth c H locs cells slots Q (F0 m pc ls st0) := by
  have hF := va_free hD hS hA isC hC
  intro T hT X
  obtain ⟨v, st₀, t, T', L, h0, X', hL, e1, e2, ⟨⟨u, hv, hp, hb⟩, hz, hk⟩, st⟩ := hr T hT X
  cases hv
  rw [h0] at hz hk
  obtain ⟨j1, j2⟩ := j_join hP hD isC hC (hw u) hk hb
  have hS1 : va_S A s.heap T'.heap (locs ++ L) := ⟨Nat.le_trans hS.1 (by rw [e1]; exact hz), fun q h1 h2 => by rw [e1, hk q (Nat.lt_of_lt_of_le h1 hS.1) (fun z => h2 (hF q z))]; exact hS.2.1 q h1 h2, fun q hq => by
      rcases List.mem_append.mp hq with h | h
      · exact hS.2.2 q h
      · exact hF _ (hL q h)⟩
  obtain ⟨t2, a1, b1⟩ := kk u T'.heap (locs ++ L) hp (by rw [e1]; exact j1) j2 hS1 T' rfl X'
  exact ⟨t2, st t2 a1, b1⟩
theorem j_mui {S : Type} {rv : S → Int} {post : S → Prop} {w' : S → va_W} {wc : va_W} {av : Array Value} (hr : va_Run p l e R s m args below meth c H locs cells slots 0 0 (F0 m pc ls st0) rest (jQm D (va_A wc H.size) (fun u => some (.int (iI (rv u)))) post w' av) (va_A wc H.size)) (hP : va_P D vwCl ws H) (hD : va_D A ws) (hS : va_S A s.heap H locs) (hA : ∀ q : Nat, s.heap.size ≤ q → A q) (isC : List Nat) (hC : isC.map (fun i => ws[i]?) = wc.map some) (hw : ∀ u, (w' u).map Prod.fst = wc.map Prod.fst)
    (kk : ∀ (u : S) (H1 : Heap) (locs1 : List Loc), post u → va_P D vwCl (jset ws isC (w' u)) H1 → va_D A (jset ws isC (w' u)) → va_S A s.heap H1 locs1 → W p l e R s m args below meth c H1 locs1 cells slots Q (F0 m (pc + 3) ls (.int (iI (rv u)) :: rest))) : W p l e R s m args below meth c H locs cells slots Q (F0 m pc ls st0) := j_mu hr hP hD hS hA isC hC hw kk
theorem j_mul {S : Type} {rv : S → Int} {post : S → Prop} {w' : S → va_W} {wc : va_W} {av : Array Value} (hr : va_Run p l e R s m args below meth c H locs cells slots 0 0 (F0 m pc ls st0) rest (jQm D (va_A wc H.size) (fun u => some (.long (lI (rv u)))) post w' av) (va_A wc H.size)) (hP : va_P D vwCl ws H) (hD : va_D A ws) (hS : va_S A s.heap H locs) (hA : ∀ q : Nat, s.heap.size ≤ q → A q) (isC : List Nat) (hC : isC.map (fun i => ws[i]?) = wc.map some) (hw : ∀ u, (w' u).map Prod.fst = wc.map Prod.fst)
    (kk : ∀ (u : S) (H1 : Heap) (locs1 : List Loc), post u → va_P D vwCl (jset ws isC (w' u)) H1 → va_D A (jset ws isC (w' u)) → va_S A s.heap H1 locs1 → W p l e R s m args below meth c H1 locs1 cells slots Q (F0 m (pc + 3) ls (.long (lI (rv u)) :: rest))) : W p l e R s m args below meth c H locs cells slots Q (F0 m pc ls st0) := j_mu hr hP hD hS hA isC hC hw kk
theorem j_muv {S : Type} {post : S → Prop} {w' : S → va_W} {wc : va_W} {av : Array Value} (hr : va_Run p l e R s m args below meth c H locs cells slots 0 0 (F0 m pc ls st0) rest (jQm D (va_A wc H.size) (fun _ => none) post w' av) (va_A wc H.size)) (hP : va_P D vwCl ws H) (hD : va_D A ws) (hS : va_S A s.heap H locs) (hA : ∀ q : Nat, s.heap.size ≤ q → A q) (isC : List Nat) (hC : isC.map (fun i => ws[i]?) = wc.map some) (hw : ∀ u, (w' u).map Prod.fst = wc.map Prod.fst)
    (kk : ∀ (u : S) (H1 : Heap) (locs1 : List Loc), post u → va_P D vwCl (jset ws isC (w' u)) H1 → va_D A (jset ws isC (w' u)) → va_S A s.heap H1 locs1 → W p l e R s m args below meth c H1 locs1 cells slots Q (F0 m (pc + 3) ls rest)) : W p l e R s m args below meth c H locs cells slots Q (F0 m pc ls st0) := j_mu hr hP hD hS hA isC hC hw kk
/-! ends -/
theorem jr_iret {v : Option Value} {r : Int} {free : Addr → Prop} (hx : p.tables.exec = Jvm.exec) (hb : c.code = cc) (hr : meth.sig.returnType = some .int) (hlocks : meth.locks = false) (ho : v = some (.int (iI r))) (hdg : decode cc pc = .ok (.ireturn, 1)) : W p l e R s m args below meth c s.heap [] cells slots (MQ below (jQr v) args s cells slots free) (F0 m pc ls [.int (iI r)]) :=
  W.iret hx hb hr (fun t ht _ => ⟨by rw [ho], ht⟩) (fun q h => by simp at h) hdg hlocks
theorem jr_zret {v : Option Value} {r : Int} {ty : FieldType} {free : Addr → Prop} (hx : p.tables.exec = Jvm.exec) (hb : c.code = cc) (hr : meth.sig.returnType = some ty) (hlocks : meth.locks = false) (hn : narrow ty (.int (iI r)) = .int (iI r)) (ho : v = some (.int (iI r))) (hdg : decode cc pc = .ok (.ireturn, 1)) : W p l e R s m args below meth c s.heap [] cells slots (MQ below (jQr v) args s cells slots free) (F0 m pc ls [.int (iI r)]) :=
  W.zret hx hb hr hn (fun t ht _ => ⟨by rw [ho], ht⟩) (fun q h => by simp at h) hdg hlocks
theorem jr_lret {v : Option Value} {r : Int} {free : Addr → Prop} (hx : p.tables.exec = Jvm.exec) (hb : c.code = cc) (hr : meth.sig.returnType = some .long) (hlocks : meth.locks = false) (ho : v = some (.long (lI r))) (hdg : decode cc pc = .ok (.lreturn, 1)) : W p l e R s m args below meth c s.heap [] cells slots (MQ below (jQr v) args s cells slots free) (F0 m pc ls [.long (lI r)]) :=
  W.lret hx hb hr (fun t ht _ => ⟨by rw [ho], ht⟩) (fun q h => by simp at h) hdg hlocks
theorem jr_aret {v : Option Value} {x : Nat} {rt : FieldType} {free : Addr → Prop} (hx : p.tables.exec = Jvm.exec) (hb : c.code = cc) (hr : meth.sig.returnType = some rt) (hrt : (∃ n, rt = .object n) ∨ ∃ t, rt = .array t) (hlocks : meth.locks = false) (ho : v = some (.ref x)) (hdg : decode cc pc = .ok (.areturn, 1)) : W p l e R s m args below meth c s.heap [] cells slots (MQ below (jQr v) args s cells slots free) (F0 m pc ls [.ref x]) :=
  W.aret hx hb hr hrt (Or.inr ⟨x, rfl⟩) (fun t ht _ => ⟨by rw [ho], ht⟩) (fun q h => by simp at h) hdg hlocks
theorem jm_iret {S : Type} {ov : S → Option Value} {post : S → Prop} {w' : S → va_W} {r : Int} (u : S) (hx : p.tables.exec = Jvm.exec) (hb : c.code = cc) (hr : meth.sig.returnType = some .int) (hlocks : meth.locks = false) (hS : va_S A s.heap H locs) (hP : va_P D vwCl (w' u) H) (ho : ov u = some (.int (iI r))) (hp : post u) (hdg : decode cc pc = .ok (.ireturn, 1)) : W p l e R s m args below meth c H locs cells slots (MQ below (jQm D A ov post w') args s cells slots A) (F0 m pc ls [.int (iI r)]) :=
  W.iret hx hb hr (fun t ht _ => ⟨⟨u, by rw [ho], hp, by rw [ht]; exact hP⟩, hS.F ht⟩) hS.2.2 hdg hlocks
theorem jm_zret {S : Type} {ov : S → Option Value} {post : S → Prop} {w' : S → va_W} {r : Int} {ty : FieldType} (u : S) (hx : p.tables.exec = Jvm.exec) (hb : c.code = cc) (hr : meth.sig.returnType = some ty) (hlocks : meth.locks = false) (hn : narrow ty (.int (iI r)) = .int (iI r)) (hS : va_S A s.heap H locs) (hP : va_P D vwCl (w' u) H) (ho : ov u = some (.int (iI r))) (hp : post u) (hdg : decode cc pc = .ok (.ireturn, 1)) : W p l e R s m args below meth c H locs cells slots (MQ below (jQm D A ov post w') args s cells slots A) (F0 m pc ls [.int (iI r)]) :=
  W.zret hx hb hr hn (fun t ht _ => ⟨⟨u, by rw [ho], hp, by rw [ht]; exact hP⟩, hS.F ht⟩) hS.2.2 hdg hlocks
theorem jm_lret {S : Type} {ov : S → Option Value} {post : S → Prop} {w' : S → va_W} {r : Int} (u : S) (hx : p.tables.exec = Jvm.exec) (hb : c.code = cc) (hr : meth.sig.returnType = some .long) (hlocks : meth.locks = false) (hS : va_S A s.heap H locs) (hP : va_P D vwCl (w' u) H) (ho : ov u = some (.long (lI r))) (hp : post u) (hdg : decode cc pc = .ok (.lreturn, 1)) : W p l e R s m args below meth c H locs cells slots (MQ below (jQm D A ov post w') args s cells slots A) (F0 m pc ls [.long (lI r)]) :=
  W.lret hx hb hr (fun t ht _ => ⟨⟨u, by rw [ho], hp, by rw [ht]; exact hP⟩, hS.F ht⟩) hS.2.2 hdg hlocks
theorem jm_vret {S : Type} {ov : S → Option Value} {post : S → Prop} {w' : S → va_W} (u : S) (hx : p.tables.exec = Jvm.exec) (hb : c.code = cc) (hr : meth.sig.returnType = none) (hlocks : meth.locks = false) (hS : va_S A s.heap H locs) (hP : va_P D vwCl (w' u) H) (ho : ov u = none) (hp : post u) (hdg : decode cc pc = .ok (.return_, 1)) : W p l e R s m args below meth c H locs cells slots (MQ below (jQm D A ov post w') args s cells slots A) (F0 m pc ls []) :=
  W.vret hx hb hr (fun t ht _ => ⟨⟨u, by rw [ho], hp, by rw [ht]; exact hP⟩, hS.F ht⟩) hS.2.2 hdg hlocks
/-! names -/
theorem j_top {x : Int} (kk : ∀ v : Int, v = x → W p l e R s m args below meth c H locs cells slots Q (F0 m pc ls (.int (iI v) :: rest))) : W p l e R s m args below meth c H locs cells slots Q (F0 m pc ls (.int (iI x) :: rest)) := kk x rfl
theorem j_topl {x : Int} (kk : ∀ v : Int, v = x → W p l e R s m args below meth c H locs cells slots Q (F0 m pc ls (.long (lI v) :: rest))) : W p l e R s m args below meth c H locs cells slots Q (F0 m pc ls (.long (lI x) :: rest)) := kk x rfl
/-! numbers -/
theorem j_iadd (hx : p.tables.exec = Jvm.exec) (hb : c.code = cc) {x y : Int} (hdg : decode cc pc = .ok (.iadd, 1)) (k : W p l e R s m args below meth c H locs cells slots Q (F0 m (pc + 1) ls (.int (iI (x + y)) :: rest))) : W p l e R s m args below meth c H locs cells slots Q (F0 m pc ls (.int (iI y) :: .int (iI x) :: rest)) := lv_iadd hx hb hdg (by rw [iI_add]; exact k)
theorem j_isub (hx : p.tables.exec = Jvm.exec) (hb : c.code = cc) {x y : Int} (hdg : decode cc pc = .ok (.isub, 1)) (k : W p l e R s m args below meth c H locs cells slots Q (F0 m (pc + 1) ls (.int (iI (x - y)) :: rest))) : W p l e R s m args below meth c H locs cells slots Q (F0 m pc ls (.int (iI y) :: .int (iI x) :: rest)) := lv_isub hx hb hdg (by rw [iI_sub]; exact k)
theorem j_imul (hx : p.tables.exec = Jvm.exec) (hb : c.code = cc) {x y : Int} (hdg : decode cc pc = .ok (.imul, 1)) (k : W p l e R s m args below meth c H locs cells slots Q (F0 m (pc + 1) ls (.int (iI (x * y)) :: rest))) : W p l e R s m args below meth c H locs cells slots Q (F0 m pc ls (.int (iI y) :: .int (iI x) :: rest)) := lv_imul hx hb hdg (by rw [iI_mul]; exact k)
theorem j_idiv (hx : p.tables.exec = Jvm.exec) (hb : c.code = cc) {x y : Int} (h : 0 ≤ x ∧ x < 2147483648 ∧ 0 < y ∧ y < 2147483648) (hdg : decode cc pc = .ok (.idiv, 1)) (k : W p l e R s m args below meth c H locs cells slots Q (F0 m (pc + 1) ls (.int (iI (x / y)) :: rest))) : W p l e R s m args below meth c H locs cells slots Q (F0 m pc ls (.int (iI y) :: .int (iI x) :: rest)) := lv_idiv hx hb hdg (fun q => by have q2 := (iI_inj (a := y) (b := 0) (by omega)).mp q; omega) (by rw [iI_div h]; exact k)
theorem j_irem (hx : p.tables.exec = Jvm.exec) (hb : c.code = cc) {x y : Int} (h : 0 ≤ x ∧ x < 2147483648 ∧ 0 < y ∧ y < 2147483648) (hdg : decode cc pc = .ok (.irem, 1)) (k : W p l e R s m args below meth c H locs cells slots Q (F0 m (pc + 1) ls (.int (iI (x % y)) :: rest))) : W p l e R s m args below meth c H locs cells slots Q (F0 m pc ls (.int (iI y) :: .int (iI x) :: rest)) := lv_irem hx hb hdg (fun q => by have q2 := (iI_inj (a := y) (b := 0) (by omega)).mp q; omega) (by rw [iI_rem h]; exact k)
theorem j_ladd (hx : p.tables.exec = Jvm.exec) (hb : c.code = cc) {x y : Int} (hdg : decode cc pc = .ok (.ladd, 1)) (k : W p l e R s m args below meth c H locs cells slots Q (F0 m (pc + 1) ls (.long (lI (x + y)) :: rest))) : W p l e R s m args below meth c H locs cells slots Q (F0 m pc ls (.long (lI y) :: .long (lI x) :: rest)) := lv_ladd hx hb hdg (by rw [lI_add]; exact k)
theorem j_lsub (hx : p.tables.exec = Jvm.exec) (hb : c.code = cc) {x y : Int} (hdg : decode cc pc = .ok (.lsub, 1)) (k : W p l e R s m args below meth c H locs cells slots Q (F0 m (pc + 1) ls (.long (lI (x - y)) :: rest))) : W p l e R s m args below meth c H locs cells slots Q (F0 m pc ls (.long (lI y) :: .long (lI x) :: rest)) := lv_lsub hx hb hdg (by rw [lI_sub]; exact k)
theorem j_lmul (hx : p.tables.exec = Jvm.exec) (hb : c.code = cc) {x y : Int} (hdg : decode cc pc = .ok (.lmul, 1)) (k : W p l e R s m args below meth c H locs cells slots Q (F0 m (pc + 1) ls (.long (lI (x * y)) :: rest))) : W p l e R s m args below meth c H locs cells slots Q (F0 m pc ls (.long (lI y) :: .long (lI x) :: rest)) := lv_lmul hx hb hdg (by rw [lI_mul]; exact k)
theorem j_lneg (hx : p.tables.exec = Jvm.exec) (hb : c.code = cc) {x : Int} (hdg : decode cc pc = .ok (.lneg, 1)) (k : W p l e R s m args below meth c H locs cells slots Q (F0 m (pc + 1) ls (.long (lI (-x)) :: rest))) : W p l e R s m args below meth c H locs cells slots Q (F0 m pc ls (.long (lI x) :: rest)) := lv_lneg hx hb hdg (by rw [lI_neg]; exact k)
theorem j_ldiv (hx : p.tables.exec = Jvm.exec) (hb : c.code = cc) {x y : Int} (h : (-9223372036854775807 ≤ x ∧ x < 9223372036854775808) ∧ (0 < y ∧ y < 9223372036854775808)) (hdg : decode cc pc = .ok (.ldiv, 1)) (k : W p l e R s m args below meth c H locs cells slots Q (F0 m (pc + 1) ls (.long (lI (x.tdiv y)) :: rest))) : W p l e R s m args below meth c H locs cells slots Q (F0 m pc ls (.long (lI y) :: .long (lI x) :: rest)) := lv_ldiv hx hb hdg (fun q => by have q2 := (lI_inj (a := y) (b := 0) (by omega)).mp q; omega) (by rw [lI_tdiv h]; exact k)
theorem j_lrem (hx : p.tables.exec = Jvm.exec) (hb : c.code = cc) {x y : Int} (h : 0 ≤ x ∧ x < 9223372036854775808 ∧ 0 < y ∧ y < 9223372036854775808) (hdg : decode cc pc = .ok (.lrem, 1)) (k : W p l e R s m args below meth c H locs cells slots Q (F0 m (pc + 1) ls (.long (lI (x % y)) :: rest))) : W p l e R s m args below meth c H locs cells slots Q (F0 m pc ls (.long (lI y) :: .long (lI x) :: rest)) := lv_lrem hx hb hdg (fun q => by have q2 := (lI_inj (a := y) (b := 0) (by omega)).mp q; omega) (by rw [lI_rem h]; exact k)
theorem j_lcmp (hx : p.tables.exec = Jvm.exec) (hb : c.code = cc) {x y : Int} (h : (-9223372036854775808 ≤ x ∧ x < 9223372036854775808) ∧ (-9223372036854775808 ≤ y ∧ y < 9223372036854775808)) (hdg : decode cc pc = .ok (.lcmp, 1)) (k : W p l e R s m args below meth c H locs cells slots Q (F0 m (pc + 1) ls (.int (iI (if y < x then 1 else if x = y then 0 else -1)) :: rest))) : W p l e R s m args below meth c H locs cells slots Q (F0 m pc ls (.long (lI y) :: .long (lI x) :: rest)) := W.lcmp hx hb hdg (by rw [lI_cmp h]; exact k)
theorem j_i2l (hx : p.tables.exec = Jvm.exec) (hb : c.code = cc) {x : Int} (h : -2147483648 ≤ x ∧ x < 2147483648) (hdg : decode cc pc = .ok (.i2l, 1)) (k : W p l e R s m args below meth c H locs cells slots Q (F0 m (pc + 1) ls (.long (lI x) :: rest))) : W p l e R s m args below meth c H locs cells slots Q (F0 m pc ls (.int (iI x) :: rest)) := lv_i2l hx hb hdg (lI_ofI h) k
theorem j_l2i (hx : p.tables.exec = Jvm.exec) (hb : c.code = cc) {x : Int} (hdg : decode cc pc = .ok (.l2i, 1)) (k : W p l e R s m args below meth c H locs cells slots Q (F0 m (pc + 1) ls (.int (iI x) :: rest))) : W p l e R s m args below meth c H locs cells slots Q (F0 m pc ls (.long (lI x) :: rest)) := lv_l2i hx hb hdg (iI_ofL x) k
/-! branches -/
theorem j_icmp_eq (hx : p.tables.exec = Jvm.exec) (hb : c.code = cc) {x y : Int} {off : Int} {tgt : Nat} (h : (-2147483648 ≤ x ∧ x < 2147483648) ∧ (-2147483648 ≤ y ∧ y < 2147483648)) (hdg : decode cc pc = .ok (.if_icmp .eq off, 3)) (ht : (pc : Int) + off = (tgt : Int)) (kt : x = y → W p l e R s m args below meth c H locs cells slots Q (F0 m tgt ls rest)) (kf : ¬ x = y → W p l e R s m args below meth c H locs cells slots Q (F0 m (pc + 3) ls rest)) : W p l e R s m args below meth c H locs cells slots Q (F0 m pc ls (.int (iI y) :: .int (iI x) :: rest)) := lv_icmp_eq hx hb hdg ht (fun q => kt ((iI_inj h).mp q)) (fun q => kf (fun q2 => q ((iI_inj h).mpr q2)))
theorem j_if_eq (hx : p.tables.exec = Jvm.exec) (hb : c.code = cc) {x : Int} {off : Int} {tgt : Nat} (h : -2147483648 ≤ x ∧ x < 2147483648) (hdg : decode cc pc = .ok (.ifCond .eq off, 3)) (ht : (pc : Int) + off = (tgt : Int)) (kt : x = 0 → W p l e R s m args below meth c H locs cells slots Q (F0 m tgt ls rest)) (kf : ¬ x = 0 → W p l e R s m args below meth c H locs cells slots Q (F0 m (pc + 3) ls rest)) : W p l e R s m args below meth c H locs cells slots Q (F0 m pc ls (.int (iI x) :: rest)) := lv_if_eq hx hb hdg ht (fun q => kt ((iI_inj (b := 0) ⟨h, by omega⟩).mp q)) (fun q => kf (fun q2 => q ((iI_inj (b := 0) ⟨h, by omega⟩).mpr q2)))
theorem j_icmp_ne (hx : p.tables.exec = Jvm.exec) (hb : c.code = cc) {x y : Int} {off : Int} {tgt : Nat} (h : (-2147483648 ≤ x ∧ x < 2147483648) ∧ (-2147483648 ≤ y ∧ y < 2147483648)) (hdg : decode cc pc = .ok (.if_icmp .ne off, 3)) (ht : (pc : Int) + off = (tgt : Int)) (kt : ¬ x = y → W p l e R s m args below meth c H locs cells slots Q (F0 m tgt ls rest)) (kf : x = y → W p l e R s m args below meth c H locs cells slots Q (F0 m (pc + 3) ls rest)) : W p l e R s m args below meth c H locs cells slots Q (F0 m pc ls (.int (iI y) :: .int (iI x) :: rest)) := lv_icmp_ne hx hb hdg ht (fun q => kt (fun q2 => q ((iI_inj h).mpr q2))) (fun q => kf ((iI_inj h).mp q))
theorem j_if_ne (hx : p.tables.exec = Jvm.exec) (hb : c.code = cc) {x : Int} {off : Int} {tgt : Nat} (h : -2147483648 ≤ x ∧ x < 2147483648) (hdg : decode cc pc = .ok (.ifCond .ne off, 3)) (ht : (pc : Int) + off = (tgt : Int)) (kt : ¬ x = 0 → W p l e R s m args below meth c H locs cells slots Q (F0 m tgt ls rest)) (kf : x = 0 → W p l e R s m args below meth c H locs cells slots Q (F0 m (pc + 3) ls rest)) : W p l e R s m args below meth c H locs cells slots Q (F0 m pc ls (.int (iI x) :: rest)) := lv_if_ne hx hb hdg ht (fun q => kt (fun q2 => q ((iI_inj (b := 0) ⟨h, by omega⟩).mpr q2))) (fun q => kf ((iI_inj (b := 0) ⟨h, by omega⟩).mp q))
theorem j_icmp_lt (hx : p.tables.exec = Jvm.exec) (hb : c.code = cc) {x y : Int} {off : Int} {tgt : Nat} (h : (-2147483648 ≤ x ∧ x < 2147483648) ∧ (-2147483648 ≤ y ∧ y < 2147483648)) (hdg : decode cc pc = .ok (.if_icmp .lt off, 3)) (ht : (pc : Int) + off = (tgt : Int)) (kt : x < y → W p l e R s m args below meth c H locs cells slots Q (F0 m tgt ls rest)) (kf : ¬ x < y → W p l e R s m args below meth c H locs cells slots Q (F0 m (pc + 3) ls rest)) : W p l e R s m args below meth c H locs cells slots Q (F0 m pc ls (.int (iI y) :: .int (iI x) :: rest)) := lv_icmp_lt hx hb hdg ht (fun q => kt ((iI_lt h).mp q)) (fun q => kf (fun q2 => q ((iI_lt h).mpr q2)))
theorem j_if_lt (hx : p.tables.exec = Jvm.exec) (hb : c.code = cc) {x : Int} {off : Int} {tgt : Nat} (h : -2147483648 ≤ x ∧ x < 2147483648) (hdg : decode cc pc = .ok (.ifCond .lt off, 3)) (ht : (pc : Int) + off = (tgt : Int)) (kt : x < 0 → W p l e R s m args below meth c H locs cells slots Q (F0 m tgt ls rest)) (kf : ¬ x < 0 → W p l e R s m args below meth c H locs cells slots Q (F0 m (pc + 3) ls rest)) : W p l e R s m args below meth c H locs cells slots Q (F0 m pc ls (.int (iI x) :: rest)) := lv_if_lt hx hb hdg ht (fun q => kt ((iI_lt (b := 0) ⟨h, by omega⟩).mp q)) (fun q => kf (fun q2 => q ((iI_lt (b := 0) ⟨h, by omega⟩).mpr q2)))
theorem j_icmp_ge (hx : p.tables.exec = Jvm.exec) (hb : c.code = cc) {x y : Int} {off : Int} {tgt : Nat} (h : (-2147483648 ≤ x ∧ x < 2147483648) ∧ (-2147483648 ≤ y ∧ y < 2147483648)) (hdg : decode cc pc = .ok (.if_icmp .ge off, 3)) (ht : (pc : Int) + off = (tgt : Int)) (kt : y ≤ x → W p l e R s m args below meth c H locs cells slots Q (F0 m tgt ls rest)) (kf : ¬ y ≤ x → W p l e R s m args below meth c H locs cells slots Q (F0 m (pc + 3) ls rest)) : W p l e R s m args below meth c H locs cells slots Q (F0 m pc ls (.int (iI y) :: .int (iI x) :: rest)) := lv_icmp_ge hx hb hdg ht (fun q => kt ((iI_le ⟨h.2, h.1⟩).mp q)) (fun q => kf (fun q2 => q ((iI_le ⟨h.2, h.1⟩).mpr q2)))
theorem j_if_ge (hx : p.tables.exec = Jvm.exec) (hb : c.code = cc) {x : Int} {off : Int} {tgt : Nat} (h : -2147483648 ≤ x ∧ x < 2147483648) (hdg : decode cc pc = .ok (.ifCond .ge off, 3)) (ht : (pc : Int) + off = (tgt : Int)) (kt : 0 ≤ x → W p l e R s m args below meth c H locs cells slots Q (F0 m tgt ls rest)) (kf : ¬ 0 ≤ x → W p l e R s m args below meth c H locs cells slots Q (F0 m (pc + 3) ls rest)) : W p l e R s m args below meth c H locs cells slots Q (F0 m pc ls (.int (iI x) :: rest)) := lv_if_ge hx hb hdg ht (fun q => kt ((iI_le (a := 0) ⟨by omega, h⟩).mp q)) (fun q => kf (fun q2 => q ((iI_le (a := 0) ⟨by omega, h⟩).mpr q2)))
theorem j_icmp_gt (hx : p.tables.exec = Jvm.exec) (hb : c.code = cc) {x y : Int} {off : Int} {tgt : Nat} (h : (-2147483648 ≤ x ∧ x < 2147483648) ∧ (-2147483648 ≤ y ∧ y < 2147483648)) (hdg : decode cc pc = .ok (.if_icmp .gt off, 3)) (ht : (pc : Int) + off = (tgt : Int)) (kt : y < x → W p l e R s m args below meth c H locs cells slots Q (F0 m tgt ls rest)) (kf : ¬ y < x → W p l e R s m args below meth c H locs cells slots Q (F0 m (pc + 3) ls rest)) : W p l e R s m args below meth c H locs cells slots Q (F0 m pc ls (.int (iI y) :: .int (iI x) :: rest)) := lv_icmp_gt hx hb hdg ht (fun q => kt ((iI_lt ⟨h.2, h.1⟩).mp q)) (fun q => kf (fun q2 => q ((iI_lt ⟨h.2, h.1⟩).mpr q2)))
theorem j_if_gt (hx : p.tables.exec = Jvm.exec) (hb : c.code = cc) {x : Int} {off : Int} {tgt : Nat} (h : -2147483648 ≤ x ∧ x < 2147483648) (hdg : decode cc pc = .ok (.ifCond .gt off, 3)) (ht : (pc : Int) + off = (tgt : Int)) (kt : 0 < x → W p l e R s m args below meth c H locs cells slots Q (F0 m tgt ls rest)) (kf : ¬ 0 < x → W p l e R s m args below meth c H locs cells slots Q (F0 m (pc + 3) ls rest)) : W p l e R s m args below meth c H locs cells slots Q (F0 m pc ls (.int (iI x) :: rest)) := lv_if_gt hx hb hdg ht (fun q => kt ((iI_lt (a := 0) ⟨by omega, h⟩).mp q)) (fun q => kf (fun q2 => q ((iI_lt (a := 0) ⟨by omega, h⟩).mpr q2)))
theorem j_icmp_le (hx : p.tables.exec = Jvm.exec) (hb : c.code = cc) {x y : Int} {off : Int} {tgt : Nat} (h : (-2147483648 ≤ x ∧ x < 2147483648) ∧ (-2147483648 ≤ y ∧ y < 2147483648)) (hdg : decode cc pc = .ok (.if_icmp .le off, 3)) (ht : (pc : Int) + off = (tgt : Int)) (kt : x ≤ y → W p l e R s m args below meth c H locs cells slots Q (F0 m tgt ls rest)) (kf : ¬ x ≤ y → W p l e R s m args below meth c H locs cells slots Q (F0 m (pc + 3) ls rest)) : W p l e R s m args below meth c H locs cells slots Q (F0 m pc ls (.int (iI y) :: .int (iI x) :: rest)) := lv_icmp_le hx hb hdg ht (fun q => kt ((iI_le h).mp q)) (fun q => kf (fun q2 => q ((iI_le h).mpr q2)))
theorem j_if_le (hx : p.tables.exec = Jvm.exec) (hb : c.code = cc) {x : Int} {off : Int} {tgt : Nat} (h : -2147483648 ≤ x ∧ x < 2147483648) (hdg : decode cc pc = .ok (.ifCond .le off, 3)) (ht : (pc : Int) + off = (tgt : Int)) (kt : x ≤ 0 → W p l e R s m args below meth c H locs cells slots Q (F0 m tgt ls rest)) (kf : ¬ x ≤ 0 → W p l e R s m args below meth c H locs cells slots Q (F0 m (pc + 3) ls rest)) : W p l e R s m args below meth c H locs cells slots Q (F0 m pc ls (.int (iI x) :: rest)) := lv_if_le hx hb hdg ht (fun q => kt ((iI_le (b := 0) ⟨h, by omega⟩).mp q)) (fun q => kf (fun q2 => q ((iI_le (b := 0) ⟨h, by omega⟩).mpr q2)))
theorem j_ifne_b (hx : p.tables.exec = Jvm.exec) (hb : c.code = cc) {b : Bool} {off : Int} {tgt : Nat} (hdg : decode cc pc = .ok (.ifCond .ne off, 3)) (ht : (pc : Int) + off = (tgt : Int)) (kt : b = true → W p l e R s m args below meth c H locs cells slots Q (F0 m tgt ls rest)) (kf : b = false → W p l e R s m args below meth c H locs cells slots Q (F0 m (pc + 3) ls rest)) : W p l e R s m args below meth c H locs cells slots Q (F0 m pc ls (.int (iI (bI b)) :: rest)) := lv_if_ne hx hb hdg ht (fun q => kt (by cases b with | true => rfl | false => exact absurd rfl q)) (fun q => kf (by cases b with | false => rfl | true => exact absurd q (by decide)))
theorem j_ifeq_b (hx : p.tables.exec = Jvm.exec) (hb : c.code = cc) {b : Bool} {off : Int} {tgt : Nat} (hdg : decode cc pc = .ok (.ifCond .eq off, 3)) (ht : (pc : Int) + off = (tgt : Int)) (kt : b = false → W p l e R s m args below meth c H locs cells slots Q (F0 m tgt ls rest)) (kf : b = true → W p l e R s m args below meth c H locs cells slots Q (F0 m (pc + 3) ls rest)) : W p l e R s m args below meth c H locs cells slots Q (F0 m pc ls (.int (iI (bI b)) :: rest)) := lv_if_eq hx hb hdg ht (fun q => kt (by cases b with | false => rfl | true => exact absurd q (by decide))) (fun q => kf (by cases b with | true => rfl | false => exact absurd rfl q))
theorem j_ifne_d (hx : p.tables.exec = Jvm.exec) (hb : c.code = cc) {P : Prop} {hdec : Decidable P} {off : Int} {tgt : Nat} (hdg : decode cc pc = .ok (.ifCond .ne off, 3)) (ht : (pc : Int) + off = (tgt : Int)) (kt : P → W p l e R s m args below meth c H locs cells slots Q (F0 m tgt ls rest)) (kf : ¬ P → W p l e R s m args below meth c H locs cells slots Q (F0 m (pc + 3) ls rest)) : W p l e R s m args below meth c H locs cells slots Q (F0 m pc ls (.int (iI (bI (@decide P hdec))) :: rest)) := j_ifne_b hx hb hdg ht (fun q => kt (of_decide_eq_true q)) (fun q => kf (of_decide_eq_false q))
theorem j_ifeq_d (hx : p.tables.exec = Jvm.exec) (hb : c.code = cc) {P : Prop} {hdec : Decidable P} {off : Int} {tgt : Nat} (hdg : decode cc pc = .ok (.ifCond .eq off, 3)) (ht : (pc : Int) + off = (tgt : Int)) (kt : ¬ P → W p l e R s m args below meth c H locs cells slots Q (F0 m tgt ls rest)) (kf : P → W p l e R s m args below meth c H locs cells slots Q (F0 m (pc + 3) ls rest)) : W p l e R s m args below meth c H locs cells slots Q (F0 m pc ls (.int (iI (bI (@decide P hdec))) :: rest)) := j_ifeq_b hx hb hdg ht (fun q => kt (of_decide_eq_false q)) (fun q => kf (of_decide_eq_true q))
/-! arrays -/
theorem j_iald (hx : p.tables.exec = Jvm.exec) (hb : c.code = cc) (hK : va_K D cl tys s) (hP : va_P D cl ws H) (q0 t0 : Nat) {cA : ClassId} {n : Nat} {g : Int → Int} (ha : ws[q0]? = some (a, .inl (cA, n, .inl (aI g)))) (ht : tys[t0]? = some (cA, .int)) {i : Int} (hin : 0 ≤ i ∧ i < (n : Int) ∧ n < 2147483648) (hdg : decode cc pc = .ok (.iaload, 1)) (kk : W p l e R s m args below meth c H locs cells slots Q (F0 m (pc + 1) ls (.int (iI (g i)) :: rest))) : W p l e R s m args below meth c H locs cells slots Q (F0 m pc ls (.int (iI i) :: .ref a :: rest)) :=
  va_iald hx hb hK hP q0 t0 ha ht (iI_in hin) hdg (by rw [aI_at g (by omega)]; exact kk)
theorem j_iast (hx : p.tables.exec = Jvm.exec) (hb : c.code = cc) (hK : va_K D cl tys s) (hP : va_P D cl ws H) (hD : va_D A ws) {H0 : Heap} (hS : va_S A H0 H locs) (q0 t0 : Nat) {cA : ClassId} {n : Nat} {g : Int → Int} (ha : ws[q0]? = some (a, .inl (cA, n, .inl (aI g)))) (ht : tys[t0]? = some (cA, .int)) {i v : Int} (hin : 0 ≤ i ∧ i < (n : Int) ∧ n < 2147483648) (hdg : decode cc pc = .ok (.iastore, 1))
    (kk : ∀ (H1 : Heap) (locs1 : List Loc), va_P D cl (ws.set q0 (a, .inl (cA, n, .inl (aI (upZ g i v))))) H1 → va_D A (ws.set q0 (a, .inl (cA, n, .inl (aI (upZ g i v))))) → va_S A H0 H1 locs1 → W p l e R s m args below meth c H1 locs1 cells slots Q (F0 m (pc + 1) ls rest)) : W p l e R s m args below meth c H locs cells slots Q (F0 m pc ls (.int (iI v) :: .int (iI i) :: .ref a :: rest)) :=
  va_iast hx hb hK hP hD hS q0 t0 ha ht (iI_in hin) hdg (by rw [iI_clamp (by omega), aI_upd g v hin.1]; exact kk)
theorem j_zald (hx : p.tables.exec = Jvm.exec) (hb : c.code = cc) (hK : va_K D cl tys s) (hP : va_P D cl ws H) (q0 t0 : Nat) {cA : ClassId} {n : Nat} {g : Int → Int} (ha : ws[q0]? = some (a, .inl (cA, n, .inl (aI g)))) (ht : tys[t0]? = some (cA, .boolean)) {i : Int} (hin : 0 ≤ i ∧ i < (n : Int) ∧ n < 2147483648) (hdg : decode cc pc = .ok (.baload, 1)) (kk : W p l e R s m args below meth c H locs cells slots Q (F0 m (pc + 1) ls (.int (iI (g i)) :: rest))) : W p l e R s m args below meth c H locs cells slots Q (F0 m pc ls (.int (iI i) :: .ref a :: rest)) :=
  va_zald hx hb hK hP q0 t0 ha ht (iI_in hin) hdg (by rw [aI_at g (by omega)]; exact kk)
theorem j_zast (hx : p.tables.exec = Jvm.exec) (hb : c.code = cc) (hK : va_K D cl tys s) (hP : va_P D cl ws H) (hD : va_D A ws) {H0 : Heap} (hS : va_S A H0 H locs) (q0 t0 : Nat) {cA : ClassId} {n : Nat} {g : Int → Int} (ha : ws[q0]? = some (a, .inl (cA, n, .inl (aI g)))) (ht : tys[t0]? = some (cA, .boolean)) {i v : Int} (hv : vp_nar .boolean (iI v) = iI v) (hin : 0 ≤ i ∧ i < (n : Int) ∧ n < 2147483648) (hdg : decode cc pc = .ok (.bastore, 1))
    (kk : ∀ (H1 : Heap) (locs1 : List Loc), va_P D cl (ws.set q0 (a, .inl (cA, n, .inl (aI (upZ g i v))))) H1 → va_D A (ws.set q0 (a, .inl (cA, n, .inl (aI (upZ g i v))))) → va_S A H0 H1 locs1 → W p l e R s m args below meth c H1 locs1 cells slots Q (F0 m (pc + 1) ls rest)) : W p l e R s m args below meth c H locs cells slots Q (F0 m pc ls (.int (iI v) :: .int (iI i) :: .ref a :: rest)) :=
  va_zast hx hb hK hP hD hS q0 t0 ha ht (iI_in hin) hdg (by rw [iI_clamp (by omega), hv, aI_upd g v hin.1]; exact kk)
theorem j_alen (hx : p.tables.exec = Jvm.exec) (hb : c.code = cc) (hK : va_K D cl tys s) (hP : va_P D cl ws H) (q0 t0 : Nat) {cA : ClassId} {n : Nat} {g : (Nat → Int32) ⊕ (Nat → Int64) ⊕ (Nat → UInt32) ⊕ (Nat → UInt64) ⊕ (Nat → Option Nat)} (ha : ws[q0]? = some (a, .inl (cA, n, g))) {ty : FieldType} (ht : tys[t0]? = some (cA, ty)) (hdg : decode cc pc = .ok (.arraylength, 1)) (kk : W p l e R s m args below meth c H locs cells slots Q (F0 m (pc + 1) ls (.int (iI (n : Int)) :: rest))) : W p l e R s m args below meth c H locs cells slots Q (F0 m pc ls (.ref a :: rest)) :=
  va_alen hx hb hK hP q0 t0 ha ht (iI_len n) hdg kk
theorem j_ti (hx : p.tables.exec = Jvm.exec) (hb : c.code = cc) {t N : Nat} {g : Int → Int} (hT : va_T .int t N (fun j => .int (aI g j)) A s s.heap) (hS : va_S A s.heap H locs) {i : Int} (hin : 0 ≤ i ∧ i < (N : Int) ∧ N < 2147483648) (hdg : decode cc pc = .ok (.iaload, 1)) (kk : W p l e R s m args below meth c H locs cells slots Q (F0 m (pc + 1) ls (.int (iI (g i)) :: rest))) : W p l e R s m args below meth c H locs cells slots Q (F0 m pc ls (.int (iI i) :: .ref t :: rest)) :=
  va_ti hx hb hT hS (iI_in hin) (by rw [aI_at g (by omega)]) hdg kk
theorem j_tlen (hx : p.tables.exec = Jvm.exec) (hb : c.code = cc) {t N : Nat} {f : Nat → Value} {ty : FieldType} (hT : va_T ty t N f A s s.heap) (hS : va_S A s.heap H locs) (hdg : decode cc pc = .ok (.arraylength, 1)) (kk : W p l e R s m args below meth c H locs cells slots Q (F0 m (pc + 1) ls (.int (iI (N : Int)) :: rest))) : W p l e R s m args below meth c H locs cells slots Q (F0 m pc ls (.ref t :: rest)) :=
  va_tlen hx hb hT hS (iI_len N) hdg kk
theorem j_mmax (hx : p.tables.exec = Jvm.exec) (hb : c.code = cc) (hml : c.maxLocals = ls.size) {own : String} {index : Nat} (hown : s.vm.findClass own = some m.cls) (hlink : (Cond.methodLink own index Lib.Math.max.name).before args s = true) (hstat : (Cond.static Lib.Math.max.name).before args s = true) (hini : (Cond.initialized "java/lang/Math").before args s = true) (hcode : (Cond.code Lib.Math.max.name Lib.Math.max.code 2 (some .int)).before args s = true)
    (hframes : 1 ≤ R.frames) (hlocals : (rest.map fun v => v.category).sum + 13 ≤ R.locals) (hc : cells ≤ R.cells) (hs : slots ≤ R.slots) {x y : Int} (h : (-2147483648 ≤ x ∧ x < 2147483648) ∧ (-2147483648 ≤ y ∧ y < 2147483648)) (hdg : decode cc pc = .ok (.invokestatic index, 3))
    (kk : W p l e R s m args below meth c H locs cells slots Q (F0 m (pc + 3) ls (.int (iI (if x < y then y else x)) :: rest))) : W p l e R s m args below meth c H locs cells slots Q (F0 m pc ls (.int (iI y) :: .int (iI x) :: rest)) := by
  refine va_mmax hx hb hml hown hlink hstat hini hcode hframes hlocals hc hs hdg ?_
  by_cases q : x < y
  · rw [if_pos q] at kk; rw [if_pos ((iI_lt h).mpr q)]; exact kk
  · rw [if_neg q] at kk; rw [if_neg (fun q2 => q ((iI_lt h).mp q2))]; exact kk
theorem j_mmin (hx : p.tables.exec = Jvm.exec) (hb : c.code = cc) (hml : c.maxLocals = ls.size) {own : String} {index : Nat} (hown : s.vm.findClass own = some m.cls) (hlink : (Cond.methodLink own index Lib.Math.min.name).before args s = true) (hstat : (Cond.static Lib.Math.min.name).before args s = true) (hini : (Cond.initialized "java/lang/Math").before args s = true) (hcode : (Cond.code Lib.Math.min.name Lib.Math.min.code 2 (some .int)).before args s = true)
    (hframes : 1 ≤ R.frames) (hlocals : (rest.map fun v => v.category).sum + 13 ≤ R.locals) (hc : cells ≤ R.cells) (hs : slots ≤ R.slots) {x y : Int} (h : (-2147483648 ≤ x ∧ x < 2147483648) ∧ (-2147483648 ≤ y ∧ y < 2147483648)) (hdg : decode cc pc = .ok (.invokestatic index, 3))
    (kk : W p l e R s m args below meth c H locs cells slots Q (F0 m (pc + 3) ls (.int (iI (if x < y then x else y)) :: rest))) : W p l e R s m args below meth c H locs cells slots Q (F0 m pc ls (.int (iI y) :: .int (iI x) :: rest)) := by
  refine va_mmin hx hb hml hown hlink hstat hini hcode hframes hlocals hc hs hdg ?_
  by_cases q : x < y
  · rw [if_pos q] at kk
    have q3 := (iI_lt h).mpr q
    have q4 : ¬ iI y < iI x := by rw [iI_lt ⟨h.2, h.1⟩]; omega
    first | (rw [if_pos q3]; exact kk) | (rw [if_neg q4]; exact kk)
  · rw [if_neg q] at kk
    have q3 : ¬ iI x < iI y := fun q2 => q ((iI_lt h).mp q2)
    by_cases q5 : x = y
    · subst q5
      have q6 : ¬ iI x < iI x := by rw [iI_lt h]; omega
      rw [if_neg q6]; exact kk
    · have q4 : iI y < iI x := by rw [iI_lt ⟨h.2, h.1⟩]; omega
      first | (rw [if_neg q3]; exact kk) | (rw [if_pos q4]; exact kk)
theorem j_mabsl (hx : p.tables.exec = Jvm.exec) (hb : c.code = cc) (hml : c.maxLocals = ls.size) {own : String} {index : Nat} (hown : s.vm.findClass own = some m.cls) (hlink : (Cond.methodLink own index Lib.MathLoose.abs_long.x).before args s = true) (hstat : (Cond.static Lib.MathLoose.abs_long.x).before args s = true) (hini : (Cond.initialized "java/lang/Math").before args s = true) (hcode : (Cond.code Lib.MathLoose.abs_long.x Lib.MathLoose.abs_long.code 2 (some .long)).before args s = true)
    (hframes : 1 ≤ R.frames) (hlocals : (rest.map fun v => v.category).sum + 13 ≤ R.locals) (hc : cells ≤ R.cells) (hs : slots ≤ R.slots) {x : Int} (h : -9223372036854775808 ≤ x ∧ x < 9223372036854775808) (hdg : decode cc pc = .ok (.invokestatic index, 3))
    (kk : W p l e R s m args below meth c H locs cells slots Q (F0 m (pc + 3) ls (.long (lI (if 0 < x then x else -x)) :: rest))) : W p l e R s m args below meth c H locs cells slots Q (F0 m pc ls (.long (lI x) :: rest)) := by
  refine va_mabs_long hx hb hml hown hlink hstat hini hcode hframes hlocals hc hs hdg ?_
  by_cases q : 0 < x
  · rw [if_pos q] at kk
    have q2 : (0 : Int64) < lI x := (lI_lt (a := 0) ⟨by omega, h⟩).mpr q
    rw [if_pos q2]; exact kk
  · rw [if_neg q] at kk
    have q2 : ¬ (0 : Int64) < lI x := fun q3 => q ((lI_lt (a := 0) ⟨by omega, h⟩).mp q3)
    rw [if_neg q2, lI_neg]; exact kk
end JROWS
