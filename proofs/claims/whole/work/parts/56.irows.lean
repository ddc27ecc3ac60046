/-! ===== constructors: rows ===== -/
def tysD (dT : Nat → ClassId) : List (ClassId × FieldType) := [(dT 0, .int), (dT 1, .long), (dT 2, .boolean), (dT 3, .object RX4)]
abbrev zi (dT : Nat → ClassId) (n : Nat) : va_E := .inl (dT 0, n, .inl (fun _ => iI 0))
abbrev zl (dT : Nat → ClassId) (n : Nat) : va_E := .inl (dT 1, n, .inr (.inl (fun _ => iL 0)))
abbrev zb (dT : Nat → ClassId) (n : Nat) : va_E := .inl (dT 2, n, .inl (fun _ => iI 0))
def m1Z (i j : Nat) : Int := if j < i then -1 else 0
def noZ (i j : Nat) : Int := if j < i then -1000000 else 0
theorem m1Z_s (i : Nat) : upd (fun j => iI (m1Z i j)) i (iI (-1)) = fun j => iI (m1Z (i + 1) j) := by
  funext j
  unfold upd m1Z
  by_cases h : j = i
  · subst h
    simp
  · by_cases h' : j < i
    · simp [h, h', Nat.lt_succ_of_lt h']
    · have : ¬ j < i + 1 := by omega
      simp [h, h', this]
theorem noZ_s (i : Nat) : upd (fun j => iI (noZ i j)) i (iI (-1000000)) = fun j => iI (noZ (i + 1) j) := by
  funext j
  unfold upd noZ
  by_cases h : j = i
  · subst h
    simp
  · by_cases h' : j < i
    · simp [h, h', Nat.lt_succ_of_lt h']
    · have : ¬ j < i + 1 := by omega
      simp [h, h', this]
theorem ha_i (n : Nat) (cA : ClassId) : vp_cell cA (n, .inl (fun _ => iI 0)) = arrV cA n (fun _ => defaultValue .int) := by
  rw [iI_0]
  rfl
theorem ha_b (n : Nat) (cA : ClassId) : vp_cell cA (n, .inl (fun _ => iI 0)) = arrV cA n (fun _ => defaultValue .boolean) := by
  rw [iI_0]
  rfl
theorem iL_0 : iL 0 = 0 := by decide +kernel
theorem ha_l (n : Nat) (cA : ClassId) : vp_cell cA (n, .inr (.inl (fun _ => iL 0))) = arrV cA n (fun _ => defaultValue .long) := by
  rw [iL_0]
  rfl
section NWA
variable {p : Program} {l : Launch} {e : Env} {R : Room} {s : State} {m : MethodId} {args : Array Value} {below : List Frame} {meth : Method} {c : Code} {H : Heap} {locs : List Loc} {cells slots : Nat} {Q : State → Prop}
variable {cc : ByteArray} {pc : Nat} {ls : Array Slot} {rest : List Value} {D : va_G} {cl : List vw_C} {A : Nat → Prop} {tys : List (ClassId × FieldType)} {ws : va_W} {H0 : Heap}
theorem nw_arr (hexec : p.tables.exec = Jvm.exec) (hb : c.code = cc) {atype : ArrayType} (harr : (Cond.arrayClass (newarray.typeOf atype)).before args s = true) {ty : FieldType} (hty : newarray.typeOf atype = ty) (hK : va_K D cl tys s) (hP : va_P D cl ws H) (hD : va_D A ws) (hS : va_S A H0 H locs) (hA : ∀ q, H0.size ≤ q → A q)
    {n : Int32} {N' : Nat} {a0 : vp_A} (ha : ∀ cA : ClassId, vp_cell cA a0 = arrV cA N' (fun _ => defaultValue ty)) (hn : ¬ n < 0) (hN : n.toNatClampNeg = N') (hbytes : N' * componentBytes ty ≤ 536870912) (hcells : cells + 1 ≤ R.cells) (hslots : slots + N' ≤ R.slots) (hdg : decode cc pc = .ok (.newarray atype, 2))
    {cA0 : ClassId} (t0 : Nat) (ht : tys[t0]? = some (cA0, ty)) (hpr : ∀ cA, va_RA s cA ty ↔ s.vm.findClass ("[" ++ ty.toString) = some cA)
    (kk : ∀ (q : Nat) (H1 : Heap), va_P D cl (ws ++ [(q, .inl (cA0, a0))]) H1 → va_D A (ws ++ [(q, .inl (cA0, a0))]) → va_S A H0 H1 locs →
      W p l e R s m args below meth c H1 locs (cells + 1) (slots + N') Q (F0 m (pc + 2) ls (.ref q :: rest))) : W p l e R s m args below meth c H locs cells slots Q (F0 m pc ls (.int n :: rest)) := by
  refine va_newa hexec hb harr hty hK hP hD hS hA ha hn hN hbytes hcells hslots hdg (fun q cA H1 hK' hP' hD' hS' => ?_)
  have e : cA = cA0 := by
    have h1 := (hpr cA).mp (hK'.2 tys.length (cA, ty) (by simp)).2
    have h2 := (hpr cA0).mp (hK.2 t0 _ ht).2
    exact Option.some.inj (h1.symm.trans h2)
  subst e
  exact kk q H1 hP' hD' hS'
theorem nw_q (hexec : p.tables.exec = Jvm.exec) (hb : c.code = cc) {own C : String} {index : Nat} (hown : s.vm.findClass own = some m.cls) (hclink : (Cond.classLink own index C).before args s = true) (hover : va_AO C s) (hK : va_K D cl tys s) (hP : va_P D cl ws H) (hD : va_D A ws) (hS : va_S A H0 H locs) (hA : ∀ q, H0.size ≤ q → A q)
    {n : Int32} {N' : Nat} (hn : ¬ n < 0) (hN : n.toNatClampNeg = N') (hbytes : N' * 4 ≤ 536870912) (hcells : cells + 1 ≤ R.cells) (hslots : slots + N' ≤ R.slots) (hdg : decode cc pc = .ok (.anewarray index, 3))
    {cA0 : ClassId} (t0 : Nat) (ht : tys[t0]? = some (cA0, .object C))
    (kk : ∀ (q : Nat) (H1 : Heap), va_P D cl (ws ++ [(q, .inl (cA0, N', .inr (.inr (.inr (.inr (fun _ => none))))))]) H1 → va_D A (ws ++ [(q, .inl (cA0, N', .inr (.inr (.inr (.inr (fun _ => none))))))]) → va_S A H0 H1 locs →
      W p l e R s m args below meth c H1 locs (cells + 1) (slots + N') Q (F0 m (pc + 3) ls (.ref q :: rest))) : W p l e R s m args below meth c H locs cells slots Q (F0 m pc ls (.int n :: rest)) := by
  refine va_newq hexec hb hown hclink hover hK hP hD hS hA hn hN hbytes hcells hslots hdg (fun q cA H1 hK' hP' hD' hS' => ?_)
  have e : cA = cA0 := by
    obtain ⟨_, _, _, _, _, h1⟩ := (hK'.2 tys.length (cA, .object C) (by simp)).2
    obtain ⟨_, _, _, _, _, h2⟩ := (hK.2 t0 _ ht).2
    exact Option.some.inj (h1.symm.trans h2)
  subst e
  exact kk q H1 hP' hD' hS'
end NWA
/-- what the class's constructor knows besides: the array of pieces, its nest mates' constructors -/
def NW7 (U : State) : Prop := va_AO RX4 U ∧ va_Nw (.methodLinkNest RX7 18 yX6_init RX7) U ∧ va_Nw (.methodLinkNest RX7 25 yX4_init RX7) U ∧ va_Nw (.methodLinkNest RX7 32 yX2_init RX7) U ∧ va_Nw (.methodLinkNest RX7 49 yX0_init RX7) U ∧ va_Nw (.methodLinkNest RX7 56 yX1_init RX7) U
/-- the words of a constructor that is called are among the caller's -/
theorem gi_of {y y' : MethodName} {b b' : ByteArray} {k k' : Nat} (h : Cond.code y' b' k' none ∈ gtb) : GoodIn (Cond.code y b k none :: gtb) (Cond.code y' b' k' none :: gtb) := fun w hw => by
  rcases List.mem_cons.mp hw with rfl | hw
  · exact ⟨List.mem_cons_of_mem _ h, good_of_word (gtb_good h)⟩
  · exact ⟨List.mem_cons_of_mem _ hw, good_of_word (gtb_good hw)⟩
