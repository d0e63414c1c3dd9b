/-! OUR KIT (14): void methods that read; the literals -/
def jch (j : Nat) (i : Int) : Int := ((jSb.getD j []).getD i.toNat 0).toInt
def jle (j : Nat) : Int := ((jSl.getD j 0 : Nat) : Int)
theorem jch_all : ∀ j, j < 6 → ∀ k, k < 5 → ((jSb.getD j []).getD k 0 &&& 255) = (jSb.getD j []).getD k 0 ∧ (((jSb.getD j []).getD k 0).toUInt32 % 65536).toInt32 = (jSb.getD j []).getD k 0 ∧ narrow .char (.int ((jSb.getD j []).getD k 0)) = .int ((jSb.getD j []).getD k 0) ∧ (0 ≤ ((jSb.getD j []).getD k 0).toInt ∧ ((jSb.getD j []).getD k 0).toInt < 128) := by decide +kernel
theorem jle_rng : ∀ j, j < 6 → 0 ≤ jle j ∧ jle j ≤ 5 := by decide +kernel
theorem iI_jch (j : Nat) (i : Int) : iI (jch j i) = (jSb.getD j []).getD i.toNat 0 := Int32.ofInt_toInt _
theorem jch_rng {j : Nat} {i : Int} (hj : j < 6) (hi : 0 ≤ i ∧ i < 5) : 0 ≤ jch j i ∧ jch j i < 128 := (jch_all j hj i.toNat (by omega)).2.2.2
theorem jch_and {j : Nat} {i : Int} (hj : j < 6) (hi : 0 ≤ i ∧ i < 5) : iI (jch j i) &&& iI 255 = iI (jch j i) := by
  rw [iI_jch]; exact (jch_all j hj i.toNat (by omega)).1
theorem jch_c {j : Nat} {i : Int} (hj : j < 6) (hi : 0 ≤ i ∧ i < 5) : ((iI (jch j i)).toUInt32 % 65536).toInt32 = iI (jch j i) := by
  rw [iI_jch]; exact (jch_all j hj i.toNat (by omega)).2.1
theorem jch_n {j : Nat} {i : Int} (hj : j < 6) (hi : 0 ≤ i ∧ i < 5) : narrow .char (.int (iI (jch j i))) = .int (iI (jch j i)) := by
  rw [iI_jch]; exact (jch_all j hj i.toNat (by omega)).2.2.1
section JROWS2
variable {p : Program} {l : Launch} {e : Env} {R : Room} {s : State} {m : MethodId} {args : Array Value} {below : List Frame} {meth : Method} {c : Code} {H : Heap} {locs : List Loc} {cells slots : Nat} {Q : State → Prop}
variable {cc : ByteArray} {pc : Nat} {ls : Array Slot} {rest st0 : List Value} {D : va_G} {A : Nat → Prop} {ws : va_W} {a : Nat} {tys : List (ClassId × FieldType)} {cl : List vw_C}
theorem j_rdv {av : Array Value} (hr : va_Run p l e R s m args below meth c H locs cells slots 0 0 (F0 m pc ls st0) rest (jQr none av) (fun _ => False)) (kk : W p l e R s m args below meth c H locs cells slots Q (F0 m (pc + 3) ls rest)) : W p l e R s m args below meth c H locs cells slots Q (F0 m pc ls st0) := by
  intro T hT X
  obtain ⟨v', st₀, t, T', L, h0, X', hL, e1, e2, ⟨hv, hh⟩, st⟩ := hr T hT X
  cases hv
  obtain ⟨t2, a1, b1⟩ := kk T' (by rw [e1, hh, h0]) (Stand.forget X' (fun q h => (hL q h).elim))
  exact ⟨t2, st t2 a1, b1⟩
theorem jr_vret {v : Option Value} {free : Addr → Prop} (hx : p.tables.exec = Jvm.exec) (hb : c.code = cc) (hr : meth.sig.returnType = none) (hlocks : meth.locks = false) (ho : v = none) (hdg : decode cc pc = .ok (.return_, 1)) : W p l e R s m args below meth c s.heap [] cells slots (MQ below (jQr v) args s cells slots free) (F0 m pc ls []) :=
  W.vret hx hb hr (fun t ht _ => ⟨by rw [ho], ht⟩) (fun q h => by simp at h) hdg hlocks
theorem j_tb (hx : p.tables.exec = Jvm.exec) (hb : c.code = cc) {t N j : Nat} (hT : va_T .byte t N (fun k => .int ((jSb.getD j []).getD k 0)) A s s.heap) (hS : va_S A s.heap H locs) {i : Int} (hin : 0 ≤ i ∧ i < (N : Int) ∧ N < 2147483648) (hdg : decode cc pc = .ok (.baload, 1)) (kk : W p l e R s m args below meth c H locs cells slots Q (F0 m (pc + 1) ls (.int (iI (jch j i)) :: rest))) : W p l e R s m args below meth c H locs cells slots Q (F0 m pc ls (.int (iI i) :: .ref t :: rest)) :=
  va_tb hx hb hT hS (iI_in hin) (by rw [iI_clamp (by omega), iI_jch]) hdg kk
theorem j_shr0 (hx : p.tables.exec = Jvm.exec) (hb : c.code = cc) {x : Int} (hdg : decode cc pc = .ok (.ishr, 1)) (k : W p l e R s m args below meth c H locs cells slots Q (F0 m (pc + 1) ls (.int (iI x) :: rest))) : W p l e R s m args below meth c H locs cells slots Q (F0 m pc ls (.int (iI 0) :: .int (iI x) :: rest)) :=
  lv_ishr hx hb hdg (by rw [show iI x >>> (iI 0 &&& 31) = iI x from sb_shr0 (iI x)]; exact k)
end JROWS2
