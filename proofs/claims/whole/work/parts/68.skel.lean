/-! THE CLAIM OUT OF ONE WALK OF THE LAW'S BODY. Your part is whole_start (and what it stands on); all else here is the same for every law, but numbers. -/
def R_law : String := "SpelledTonesLaw"
def lw_P (b : Addr) (xs : List Int32) (args : Array Value) (s : State) : Prop := args = #[.ref b] ∧ s.IntsAt b xs ∧ xs.length ≤ 3072 ∧ (Jvm.Cond.and given_1 narrow_1).before args s = true
def lw_Q (_ : Array Value) (s : State) (o : Outcome) (t : State) : Prop := o = .returned (some (.int 1)) ∧ Framed s o t [] 600000 7302250
def lw_Z (below : List Frame) (a : Array Value) (s : State) : State → Prop := fun t => ∃ o, t.status = .running ∧ Ended t below o ∧ lw_Q a s o t
/-- the law's own end, with 1 on the stack, nothing written that was there before, its room as the claim has it -/
theorem lw_ret {p : Program} {l : Launch} {e : Env} {s : State} {m : MethodId} {below : List Frame} {meth : Method} {c : Code} {b : Nat} (hx : p.tables.exec = Jvm.exec) (hb : c.code = code) (hr : meth.sig.returnType = ret) (hlocks : meth.locks = false) {pc : Nat} {H : Heap} {ls : Array Slot} (hdg : decode code pc = .ok (.ireturn, 1)) : W p l e room_1 s m #[Value.ref b] below meth c H [] 600000 7302250 (lw_Z below #[Value.ref b] s) (F0 m pc ls [.int 1]) := by
  intro T hT X
  obtain ⟨fs, hret, hrun, hended, hW, hframe⟩ := X.leave (v := some (.int 1)) (hlocks := hlocks) (fun h => by rw [hr] at h; cases h)
  have hmeth' : T.vm.method? m = some meth := X.method'
  refine ⟨T.setFrames fs, ?_, .returned (some (.int 1)), hrun, hended, rfl, ⟨_, rfl⟩, hW, hframe⟩
  jvm_step X.here [X.here.top, hx, hb, hdg, hmeth', hr, ret, narrow_b1]
  (try refine ⟨rfl, ?_⟩); (try refine ⟨rfl, ?_⟩)
  first | (intro acts; rw [hret _ acts rfl rfl rfl]) | rw [hret _ _ rfl rfl rfl]
  exact Steps.refl _
/-- what holds at the law's entry: the machine, the code, the tables' words (any of lw_tbl by 'hts w (by decide +kernel)'), the script of L ints xs at the cell b, what the Statement gives of the start (any of its parts by flat_of_before) -/
def lw_At (p : Program) (s : State) (m : MethodId) (meth : Method) (c : Code) (b L : Nat) (xs : Nat → Int32) : Prop :=
  p.tables.exec = Jvm.exec ∧ c.code = code ∧ meth.sig.returnType = ret ∧ c.maxLocals = 4 ∧ s.vm.findClass R_law = some m.cls ∧ (∀ w ∈ lw_tbl, w.before #[Value.ref b] s = true) ∧ va_X b L xs s s.heap ∧ b < s.heap.size ∧ meth.locks = false ∧ (Jvm.Cond.and given_1 narrow_1).before #[Value.ref b] s = true
/-! ===== the static tables, the classes ===== -/
theorem tmm {w : Cond} (i : Nat) (h : tables_1[i]? = some w) : w ∈ lw_tbl := List.mem_append_right _ (List.mem_of_getElem? h)
theorem gtb_tbl {w : Cond} (h : w ∈ gtb) : w ∈ lw_tbl := (List.mem_filter.mp h).1
theorem gi_law {y : MethodName} {b : ByteArray} {k : Nat} (h : Cond.code y b k none ∈ gtb) : GoodIn lw_tbl (Cond.code y b k none :: gtb) := fun w hw => by
  rcases List.mem_cons.mp hw with rfl | hw
  · exact ⟨gtb_tbl h, good_of_word (gtb_good h)⟩
  · exact ⟨gtb_tbl hw, good_of_word (gtb_good hw)⟩
theorem st_NEAREST {s : State} {b : Nat} (hts : ∀ w ∈ lw_tbl, w.before #[Value.ref b] s = true) (hgv : (Jvm.Cond.and given_1 narrow_1).before #[Value.ref b] s = true) : ∃ t : Nat, va_Z RX1 "NEAREST" "[I" (.ref t) (fun q : Nat => s.heap.size ≤ q) s s.heap ∧ va_T .int t 6 (fun j => .int (iI ([0, 0, 1, 1, 0, 4].getD j 0))) (fun q : Nat => s.heap.size ≤ q) s s.heap := by
  have hs := flat_of_before _ hgv
  have hA : ∀ a : Nat, a < s.heap.size → ¬ (fun q : Nat => s.heap.size ≤ q) a := fun a h => Nat.not_le.mpr h
  have harr : (Cond.arrayOf (.static "SpelledTones$Asks" "NEAREST" "[I") .int).before #[Value.ref b] s = true := hs _ (by decide +kernel)
  have hlen := va_eqt (hs (Cond.eq (.length (.static "SpelledTones$Asks" "NEAREST" "[I")) (.int 6)) (by decide +kernel))
  have h0 := va_eqt (hs (Cond.eq (.elem (.static "SpelledTones$Asks" "NEAREST" "[I") (.int 0)) (.int 0)) (by decide +kernel))
  have h1 := va_eqt (hs (Cond.eq (.elem (.static "SpelledTones$Asks" "NEAREST" "[I") (.int 1)) (.int 0)) (by decide +kernel))
  have h2 := va_eqt (hs (Cond.eq (.elem (.static "SpelledTones$Asks" "NEAREST" "[I") (.int 2)) (.int 1)) (by decide +kernel))
  have h3 := va_eqt (hs (Cond.eq (.elem (.static "SpelledTones$Asks" "NEAREST" "[I") (.int 3)) (.int 1)) (by decide +kernel))
  have h4 := va_eqt (hs (Cond.eq (.elem (.static "SpelledTones$Asks" "NEAREST" "[I") (.int 4)) (.int 0)) (by decide +kernel))
  have h5 := va_eqt (hs (Cond.eq (.elem (.static "SpelledTones$Asks" "NEAREST" "[I") (.int 5)) (.int 4)) (by decide +kernel))
  have hel : ∀ j : Nat, j < 6 → (Term.elem (.static "SpelledTones$Asks" "NEAREST" "[I") (.int (Int32.ofNat j))).eval #[Value.ref b] s none [] s = some (.int (iI ([0, 0, 1, 1, 0, 4].getD j 0))) := by
    intro j hj
    rcases (show j = 0 ∨ j = 1 ∨ j = 2 ∨ j = 3 ∨ j = 4 ∨ j = 5 by omega) with rfl | rfl | rfl | rfl | rfl | rfl
    · exact h0.trans (congrArg (fun x => some (Value.int x)) (by decide +kernel : (0 : Int32) = iI 0))
    · exact h1.trans (congrArg (fun x => some (Value.int x)) (by decide +kernel : (0 : Int32) = iI 0))
    · exact h2.trans (congrArg (fun x => some (Value.int x)) (by decide +kernel : (1 : Int32) = iI 1))
    · exact h3.trans (congrArg (fun x => some (Value.int x)) (by decide +kernel : (1 : Int32) = iI 1))
    · exact h4.trans (congrArg (fun x => some (Value.int x)) (by decide +kernel : (0 : Int32) = iI 0))
    · exact h5.trans (congrArg (fun x => some (Value.int x)) (by decide +kernel : (4 : Int32) = iI 4))
  obtain ⟨t, ht, hT⟩ := va_Tof (N := 6) (f := fun j => .int (iI ([0, 0, 1, 1, 0, 4].getD j 0))) (A := fun q : Nat => s.heap.size ≤ q) (by decide) harr hlen hel hA
  exact ⟨t, va_Zref (hts (.laysStatic "SpelledTones$Asks" "NEAREST" "[I") (tmm 694 (by decide +kernel))) (hts (.initialized "SpelledTones$Asks") (tmm 7 (by decide +kernel))) ht hA, hT⟩
theorem st_SIZE_BODIES {s : State} {b : Nat} (hts : ∀ w ∈ lw_tbl, w.before #[Value.ref b] s = true) (hgv : (Jvm.Cond.and given_1 narrow_1).before #[Value.ref b] s = true) : ∃ t : Nat, va_Z RX1 "SIZE_BODIES" "[I" (.ref t) (fun q : Nat => s.heap.size ≤ q) s s.heap ∧ va_T .int t 6 (fun j => .int (iI ([10, 11, 12, 11, 13, 14].getD j 0))) (fun q : Nat => s.heap.size ≤ q) s s.heap := by
  have hs := flat_of_before _ hgv
  have hA : ∀ a : Nat, a < s.heap.size → ¬ (fun q : Nat => s.heap.size ≤ q) a := fun a h => Nat.not_le.mpr h
  have harr : (Cond.arrayOf (.static "SpelledTones$Asks" "SIZE_BODIES" "[I") .int).before #[Value.ref b] s = true := hs _ (by decide +kernel)
  have hlen := va_eqt (hs (Cond.eq (.length (.static "SpelledTones$Asks" "SIZE_BODIES" "[I")) (.int 6)) (by decide +kernel))
  have h0 := va_eqt (hs (Cond.eq (.elem (.static "SpelledTones$Asks" "SIZE_BODIES" "[I") (.int 0)) (.int 10)) (by decide +kernel))
  have h1 := va_eqt (hs (Cond.eq (.elem (.static "SpelledTones$Asks" "SIZE_BODIES" "[I") (.int 1)) (.int 11)) (by decide +kernel))
  have h2 := va_eqt (hs (Cond.eq (.elem (.static "SpelledTones$Asks" "SIZE_BODIES" "[I") (.int 2)) (.int 12)) (by decide +kernel))
  have h3 := va_eqt (hs (Cond.eq (.elem (.static "SpelledTones$Asks" "SIZE_BODIES" "[I") (.int 3)) (.int 11)) (by decide +kernel))
  have h4 := va_eqt (hs (Cond.eq (.elem (.static "SpelledTones$Asks" "SIZE_BODIES" "[I") (.int 4)) (.int 13)) (by decide +kernel))
  have h5 := va_eqt (hs (Cond.eq (.elem (.static "SpelledTones$Asks" "SIZE_BODIES" "[I") (.int 5)) (.int 14)) (by decide +kernel))
  have hel : ∀ j : Nat, j < 6 → (Term.elem (.static "SpelledTones$Asks" "SIZE_BODIES" "[I") (.int (Int32.ofNat j))).eval #[Value.ref b] s none [] s = some (.int (iI ([10, 11, 12, 11, 13, 14].getD j 0))) := by
    intro j hj
    rcases (show j = 0 ∨ j = 1 ∨ j = 2 ∨ j = 3 ∨ j = 4 ∨ j = 5 by omega) with rfl | rfl | rfl | rfl | rfl | rfl
    · exact h0.trans (congrArg (fun x => some (Value.int x)) (by decide +kernel : (10 : Int32) = iI 10))
    · exact h1.trans (congrArg (fun x => some (Value.int x)) (by decide +kernel : (11 : Int32) = iI 11))
    · exact h2.trans (congrArg (fun x => some (Value.int x)) (by decide +kernel : (12 : Int32) = iI 12))
    · exact h3.trans (congrArg (fun x => some (Value.int x)) (by decide +kernel : (11 : Int32) = iI 11))
    · exact h4.trans (congrArg (fun x => some (Value.int x)) (by decide +kernel : (13 : Int32) = iI 13))
    · exact h5.trans (congrArg (fun x => some (Value.int x)) (by decide +kernel : (14 : Int32) = iI 14))
  obtain ⟨t, ht, hT⟩ := va_Tof (N := 6) (f := fun j => .int (iI ([10, 11, 12, 11, 13, 14].getD j 0))) (A := fun q : Nat => s.heap.size ≤ q) (by decide) harr hlen hel hA
  exact ⟨t, va_Zref (hts (.laysStatic "SpelledTones$Asks" "SIZE_BODIES" "[I") (tmm 704 (by decide +kernel))) (hts (.initialized "SpelledTones$Asks") (tmm 7 (by decide +kernel))) ht hA, hT⟩
theorem st_MARK_BODIES {s : State} {b : Nat} (hts : ∀ w ∈ lw_tbl, w.before #[Value.ref b] s = true) (hgv : (Jvm.Cond.and given_1 narrow_1).before #[Value.ref b] s = true) : ∃ t : Nat, va_Z RX1 "MARK_BODIES" "[I" (.ref t) (fun q : Nat => s.heap.size ≤ q) s s.heap ∧ va_T .int t 6 (fun j => .int (iI ([20, 21, 24, 22, 23, 23].getD j 0))) (fun q : Nat => s.heap.size ≤ q) s s.heap := by
  have hs := flat_of_before _ hgv
  have hA : ∀ a : Nat, a < s.heap.size → ¬ (fun q : Nat => s.heap.size ≤ q) a := fun a h => Nat.not_le.mpr h
  have harr : (Cond.arrayOf (.static "SpelledTones$Asks" "MARK_BODIES" "[I") .int).before #[Value.ref b] s = true := hs _ (by decide +kernel)
  have hlen := va_eqt (hs (Cond.eq (.length (.static "SpelledTones$Asks" "MARK_BODIES" "[I")) (.int 6)) (by decide +kernel))
  have h0 := va_eqt (hs (Cond.eq (.elem (.static "SpelledTones$Asks" "MARK_BODIES" "[I") (.int 0)) (.int 20)) (by decide +kernel))
  have h1 := va_eqt (hs (Cond.eq (.elem (.static "SpelledTones$Asks" "MARK_BODIES" "[I") (.int 1)) (.int 21)) (by decide +kernel))
  have h2 := va_eqt (hs (Cond.eq (.elem (.static "SpelledTones$Asks" "MARK_BODIES" "[I") (.int 2)) (.int 24)) (by decide +kernel))
  have h3 := va_eqt (hs (Cond.eq (.elem (.static "SpelledTones$Asks" "MARK_BODIES" "[I") (.int 3)) (.int 22)) (by decide +kernel))
  have h4 := va_eqt (hs (Cond.eq (.elem (.static "SpelledTones$Asks" "MARK_BODIES" "[I") (.int 4)) (.int 23)) (by decide +kernel))
  have h5 := va_eqt (hs (Cond.eq (.elem (.static "SpelledTones$Asks" "MARK_BODIES" "[I") (.int 5)) (.int 23)) (by decide +kernel))
  have hel : ∀ j : Nat, j < 6 → (Term.elem (.static "SpelledTones$Asks" "MARK_BODIES" "[I") (.int (Int32.ofNat j))).eval #[Value.ref b] s none [] s = some (.int (iI ([20, 21, 24, 22, 23, 23].getD j 0))) := by
    intro j hj
    rcases (show j = 0 ∨ j = 1 ∨ j = 2 ∨ j = 3 ∨ j = 4 ∨ j = 5 by omega) with rfl | rfl | rfl | rfl | rfl | rfl
    · exact h0.trans (congrArg (fun x => some (Value.int x)) (by decide +kernel : (20 : Int32) = iI 20))
    · exact h1.trans (congrArg (fun x => some (Value.int x)) (by decide +kernel : (21 : Int32) = iI 21))
    · exact h2.trans (congrArg (fun x => some (Value.int x)) (by decide +kernel : (24 : Int32) = iI 24))
    · exact h3.trans (congrArg (fun x => some (Value.int x)) (by decide +kernel : (22 : Int32) = iI 22))
    · exact h4.trans (congrArg (fun x => some (Value.int x)) (by decide +kernel : (23 : Int32) = iI 23))
    · exact h5.trans (congrArg (fun x => some (Value.int x)) (by decide +kernel : (23 : Int32) = iI 23))
  obtain ⟨t, ht, hT⟩ := va_Tof (N := 6) (f := fun j => .int (iI ([20, 21, 24, 22, 23, 23].getD j 0))) (A := fun q : Nat => s.heap.size ≤ q) (by decide) harr hlen hel hA
  exact ⟨t, va_Zref (hts (.laysStatic "SpelledTones$Asks" "MARK_BODIES" "[I") (tmm 706 (by decide +kernel))) (hts (.initialized "SpelledTones$Asks") (tmm 7 (by decide +kernel))) ht hA, hT⟩
theorem tys_law {s : State} {b : Nat} (hts : ∀ w ∈ lw_tbl, w.before #[Value.ref b] s = true) : ∃ dT : Nat → ClassId, ∀ (k : Nat) (q : ClassId × FieldType), (tysD dT)[k]? = some q → ArrOfT s q.1 q.2 ∧ va_RA s q.1 q.2 := by
  obtain ⟨c0, k0, p0, a1, a2, a3⟩ := Cond.arrayClass_spec (hts (.arrayClass .int) (tmm 36 (by decide +kernel)))
  obtain ⟨c1, k1, p1, b1, b2, b3⟩ := Cond.arrayClass_spec (hts (.arrayClass .long) (tmm 175 (by decide +kernel)))
  obtain ⟨c2, k2, p2, d1, d2, d3⟩ := Cond.arrayClass_spec (hts (.arrayClass .boolean) (tmm 823 (by decide +kernel)))
  obtain ⟨p3, c3, k3, e1, -, e2, e3, e4⟩ := Cond.arrayOver_spec (hts (.arrayOver (.object RX4)) (tmm 176 (by decide +kernel)))
  refine ⟨fun k => if k = 0 then c0 else if k = 1 then c1 else if k = 2 then c2 else c3, fun k q hq => ?_⟩
  unfold tysD at hq
  match k, hq with
  | 0, hq => cases hq; exact ⟨fun n z => ⟨fun k h => (by cases h), k0, a2, p0, a3⟩, a1⟩
  | 1, hq => cases hq; exact ⟨fun n z => ⟨fun k h => (by cases h), k1, b2, p1, b3⟩, b1⟩
  | 2, hq => cases hq; exact ⟨fun n z => ⟨fun k h => (by cases h), k2, d2, p2, d3⟩, d1⟩
  | 3, hq => cases hq; exact ⟨fun n z => ⟨fun k h => (by cases h), k3, e2, p3, e3⟩, k3, p3, e2, e3, e1, e4⟩
  | k + 4, hq => simp at hq
theorem cls_law {s : State} {b : Nat} (hts : ∀ w ∈ lw_tbl, w.before #[Value.ref b] s = true) : ∃ D : va_G, ∀ (c : Nat) (q : vw_C), vwCl[c]? = some q → u_Kn s q.1 q.2.1 q.2.2 (D.1 c) (D.2 c) := by
  obtain ⟨c0, i0, h0⟩ := u_known (C := RX0) (T := TX0) (N := 4) (n := 4) hts (fun w hw => gtb_tbl (inGX0 w hw)) (hts (.instantiable RX0 4) (tmm 178 (by decide +kernel)))
  obtain ⟨c1, i1, h1⟩ := u_known (C := RX1) (T := TX1) (N := 6) (n := 6) hts (fun w hw => gtb_tbl (inGX1 w hw)) (hts (.instantiable RX1 6) (tmm 198 (by decide +kernel)))
  obtain ⟨c2, i2, h2⟩ := u_known (C := RX2) (T := TX2) (N := 10) (n := 10) hts (fun w hw => gtb_tbl (inGX2 w hw)) (hts (.instantiable RX2 10) (tmm 133 (by decide +kernel)))
  obtain ⟨c3, i3, h3⟩ := u_known (C := RX4) (T := TX4) (N := 9) (n := 9) hts (fun w hw => gtb_tbl (inGX4 w hw)) (hts (.instantiable RX4 9) (tmm 77 (by decide +kernel)))
  obtain ⟨c4, i4, h4⟩ := u_known (C := RX5) (T := TX5) (N := 3) (n := 3) hts (fun w hw => gtb_tbl (inGX5 w hw)) (hts (.instantiable RX5 3) (tmm 21 (by decide +kernel)))
  obtain ⟨c5, i5, h5⟩ := u_known (C := RX6) (T := TX6) (N := 10) (n := 10) hts (fun w hw => gtb_tbl (inGX6 w hw)) (hts (.instantiable RX6 10) (tmm 38 (by decide +kernel)))
  obtain ⟨c6, i6, h6⟩ := u_known (C := RX7) (T := TX7) (N := 15) (n := 15) hts (fun w hw => gtb_tbl (inGX7 w hw)) (hts (.instantiable RX7 15) (tmm 13 (by decide +kernel)))
  obtain ⟨c7, i7, h7⟩ := u_known (C := RX8) (T := TX8) (N := 28) (n := 28) hts (fun w hw => gtb_tbl (inGX8 w hw)) (hts (.instantiable RX8 28) (tmm 732 (by decide +kernel)))
  refine ⟨(fun k => if k = 0 then c0 else if k = 1 then c1 else if k = 2 then c2 else if k = 3 then c3 else if k = 4 then c4 else if k = 5 then c5 else if k = 6 then c6 else c7, fun k => if k = 0 then i0 else if k = 1 then i1 else if k = 2 then i2 else if k = 3 then i3 else if k = 4 then i4 else if k = 5 then i5 else if k = 6 then i6 else i7), fun k q hq => ?_⟩
  match k, hq with
  | 0, hq => cases hq; exact h0
  | 1, hq => cases hq; exact h1
  | 2, hq => cases hq; exact h2
  | 3, hq => cases hq; exact h3
  | 4, hq => cases hq; exact h4
  | 5, hq => cases hq; exact h5
  | 6, hq => cases hq; exact h6
  | 7, hq => cases hq; exact h7
  | k + 8, hq => simp [vwCl] at hq
theorem NW7.same {U V : State} (h : NW7 U) (hv : V.vm = U.vm) : NW7 V := by
  obtain ⟨h0, h1, h2, h3, h4, h5⟩ := h
  exact ⟨va_AO.moved (by rw [hv]; exact Vm.Alike.refl U.vm) h0, va_Nw.same rfl hv.symm h1, va_Nw.same rfl hv.symm h2, va_Nw.same rfl hv.symm h3, va_Nw.same rfl hv.symm h4, va_Nw.same rfl hv.symm h5⟩
theorem NW7.warm {s U : State} (h : NW7 s) (hW : s.WarmedH U.vm) : NW7 U := by
  obtain ⟨h0, h1, h2, h3, h4, h5⟩ := h
  exact ⟨va_AO.moved hW.alike h0, va_Nw.warmM hW h1, va_Nw.warmM hW h2, va_Nw.warmM hW h3, va_Nw.warmM hW h4, va_Nw.warmM hW h5⟩
theorem nw7_law {s : State} {b : Nat} (hts : ∀ w ∈ lw_tbl, w.before #[Value.ref b] s = true) : NW7 s := ⟨va_AO.of (hts (.arrayOver (.object RX4)) (tmm 176 (by decide +kernel))), va_Nw.of rfl (hts (.methodLinkNest RX7 18 yX6_init RX7) (tmm 39 (by decide +kernel))), va_Nw.of rfl (hts (.methodLinkNest RX7 25 yX4_init RX7) (tmm 78 (by decide +kernel))), va_Nw.of rfl (hts (.methodLinkNest RX7 32 yX2_init RX7) (tmm 134 (by decide +kernel))), va_Nw.of rfl (hts (.methodLinkNest RX7 49 yX0_init RX7) (tmm 179 (by decide +kernel))), va_Nw.of rfl (hts (.methodLinkNest RX7 56 yX1_init RX7) (tmm 199 (by decide +kernel)))⟩
