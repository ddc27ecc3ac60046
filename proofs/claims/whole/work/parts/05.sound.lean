/-! ===== the abstract machine is the machine ===== -/
def isL (v : AV) : Bool := match v with
  | .inr (.inr _) => true
  | _ => false
theorem cv_cat (ad : Nat → Nat) (v : AV) : (cv ad v).category = if isL v = true then 2 else 1 := by
  rcases v with z | k | z <;> rfl
def lvp (ad : Nat → Nat) : Nat → LSt → List (Nat × Value)
  | _, [] => []
  | k, none :: r => lvp ad (k + 1) r
  | k, some v :: r => (k, cv ad v) :: lvp ad (k + 1) r
theorem lvp_mem {ad : Nat → Nat} : ∀ (ls : LSt) (k i : Nat) (v : AV), lnth ls i = some v → (k + i, cv ad v) ∈ lvp ad k ls
  | [], k, i, v, h => by simp [lnth] at h
  | none :: r, k, 0, v, h => by simp [lnth] at h
  | some w :: r, k, 0, v, h => by
    simp only [lnth, Option.some.injEq] at h
    subst h
    exact List.mem_cons_self
  | none :: r, k, i + 1, v, h => by
    have := lvp_mem (ad := ad) r (k + 1) i v h
    rw [show k + (i + 1) = k + 1 + i by omega]
    exact this
  | some w :: r, k, i + 1, v, h => by
    have := lvp_mem (ad := ad) r (k + 1) i v h
    rw [show k + (i + 1) = k + 1 + i by omega]
    exact List.mem_cons_of_mem _ this
theorem lvp_inv {ad : Nat → Nat} : ∀ (ls : LSt) (k : Nat) (q : Nat × Value), q ∈ lvp ad k ls → ∃ (i : Nat) (v : AV), lnth ls i = some v ∧ q = (k + i, cv ad v)
  | [], k, q, h => by simp [lvp] at h
  | none :: r, k, q, h => by
    obtain ⟨i, v, h1, h2⟩ := lvp_inv r (k + 1) q h
    exact ⟨i + 1, v, h1, by rw [h2, show k + 1 + i = k + (i + 1) by omega]⟩
  | some w :: r, k, q, h => by
    rcases List.mem_cons.mp h with h | h
    · exact ⟨0, w, rfl, h⟩
    · obtain ⟨i, v, h1, h2⟩ := lvp_inv r (k + 1) q h
      exact ⟨i + 1, v, h1, by rw [h2, show k + 1 + i = k + (i + 1) by omega]⟩
theorem nolong_some {o : Option AV} {w : AV} (h : nolong o = some w) : o = some w ∧ isL w = false := by
  rcases o with _ | z | k | z
  · simp [nolong] at h
  · simp [nolong] at h; subst h; exact ⟨rfl, rfl⟩
  · simp [nolong] at h; subst h; exact ⟨rfl, rfl⟩
  · simp [nolong] at h
theorem st1_nth : ∀ (ls : LSt) (i j : Nat) (v w : AV), lnth (st1 ls i v) j = some w → (j = i ∧ w = v) ∨ (j ≠ i ∧ lnth ls j = some w ∧ ¬ (j + 1 = i ∧ isL w = true))
  | [], i, j, v, w, h => by simp [st1, lnth] at h
  | o :: r, 0, 0, v, w, h => by
    simp only [st1, lnth, Option.some.injEq] at h
    exact Or.inl ⟨rfl, h.symm⟩
  | o :: r, 0, j + 1, v, w, h => Or.inr ⟨by omega, h, fun q => by omega⟩
  | o :: r, i + 1, 0, v, w, h => by
    simp only [st1, lnth] at h
    by_cases hi : i = 0
    · rw [if_pos hi] at h
      obtain ⟨h1, h2⟩ := nolong_some h
      exact Or.inr ⟨by omega, h1, fun q => by rw [h2] at q; exact absurd q.2 (by decide)⟩
    · rw [if_neg hi] at h
      exact Or.inr ⟨by omega, h, fun q => by omega⟩
  | o :: r, i + 1, j + 1, v, w, h => by
    rcases st1_nth r i j v w h with ⟨h1, h2⟩ | ⟨h1, h2, h3⟩
    · exact Or.inl ⟨by omega, h2⟩
    · exact Or.inr ⟨by omega, h2, fun q => h3 ⟨by omega, q.2⟩⟩
theorem st2_nth : ∀ (ls : LSt) (i j : Nat) (v w : AV), lnth (st2 ls i v) j = some w → (j = i ∧ w = v) ∨ (j ≠ i ∧ j ≠ i + 1 ∧ lnth ls j = some w ∧ ¬ (j + 1 = i ∧ isL w = true))
  | [], i, j, v, w, h => by simp [st2, lnth] at h
  | o :: r, 0, 0, v, w, h => by
    simp only [st2, lnth, Option.some.injEq] at h
    exact Or.inl ⟨rfl, h.symm⟩
  | o :: [], 0, j + 1, v, w, h => by simp [st2, nohead, lnth] at h
  | o :: o2 :: r, 0, 1, v, w, h => by simp [st2, nohead, lnth] at h
  | o :: o2 :: r, 0, j + 2, v, w, h => Or.inr ⟨by omega, by omega, h, fun q => by omega⟩
  | o :: r, i + 1, 0, v, w, h => by
    simp only [st2, lnth] at h
    by_cases hi : i = 0
    · rw [if_pos hi] at h
      obtain ⟨h1, h2⟩ := nolong_some h
      exact Or.inr ⟨by omega, by omega, h1, fun q => by rw [h2] at q; exact absurd q.2 (by decide)⟩
    · rw [if_neg hi] at h
      exact Or.inr ⟨by omega, by omega, h, fun q => by omega⟩
  | o :: r, i + 1, j + 1, v, w, h => by
    rcases st2_nth r i j v w h with ⟨h1, h2⟩ | ⟨h1, h2, h3, h4⟩
    · exact Or.inl ⟨by omega, h2⟩
    · exact Or.inr ⟨by omega, by omega, h3, fun q => h4 ⟨by omega, q.2⟩⟩
theorem st1_len : ∀ (ls : LSt) (i : Nat) (v : AV), (st1 ls i v).length = ls.length
  | [], _, _ => rfl
  | _ :: _, 0, _ => rfl
  | _ :: r, i + 1, v => congrArg Nat.succ (st1_len r i v)
theorem nohead_len : ∀ (ls : LSt), (nohead ls).length = ls.length
  | [] => rfl
  | _ :: _ => rfl
theorem st2_len : ∀ (ls : LSt) (i : Nat) (v : AV), (st2 ls i v).length = ls.length
  | [], _, _ => rfl
  | _ :: r, 0, _ => congrArg Nat.succ (nohead_len r)
  | _ :: r, i + 1, v => congrArg Nat.succ (st2_len r i v)
def LV (ad : Nat → Nat) (lsA : Array Slot) (nL : Nat) (ls : LSt) : Prop := ls.length = nL ∧ lv_has lsA nL (lvp ad 0 ls)
theorem LV.at {ad : Nat → Nat} {lsA : Array Slot} {nL : Nat} {ls : LSt} (h : LV ad lsA nL ls) {i : Nat} {v : AV} (hv : lnth ls i = some v) : lsA[i]? = some (.val (cv ad v)) := by
  have := h.2.2.2 _ (lvp_mem (ad := ad) ls 0 i v hv)
  rw [Nat.zero_add] at this
  exact this
theorem LV.put1 {ad : Nat → Nat} {lsA lsB : Array Slot} {nL : Nat} {ls : LSt} {i : Nat} {v : AV} (h : LV ad lsA nL ls) (hb : lv_has lsB nL ((i, cv ad v) :: (lvp ad 0 ls).filter (fun q => !(q.1 == i) && !(q.1 + 1 == i && q.2.category == 2)))) : LV ad lsB nL (st1 ls i v) := by
  refine ⟨by rw [st1_len]; exact h.1, hb.1, hb.2.1, fun q hq => hb.2.2 q ?_⟩
  obtain ⟨j, w, h1, rfl⟩ := lvp_inv _ _ _ hq
  rw [Nat.zero_add]
  rcases st1_nth ls i j v w h1 with ⟨rfl, rfl⟩ | ⟨h2, h3, h4⟩
  · exact List.mem_cons_self
  · refine List.mem_cons_of_mem _ (List.mem_filter.mpr ⟨by have := lvp_mem (ad := ad) ls 0 j w h3; rw [Nat.zero_add] at this; exact this, ?_⟩)
    have e1 : (j == i) = false := by simpa using h2
    show (!(j == i) && !(j + 1 == i && (cv ad w).category == 2)) = true
    rw [e1, cv_cat]
    by_cases hw : isL w = true
    · have e2 : (j + 1 == i) = false := by
        have : j + 1 ≠ i := fun z => h4 ⟨z, hw⟩
        simpa using this
      rw [e2]; rfl
    · rw [if_neg hw]
      simp
theorem LV.put2 {ad : Nat → Nat} {lsA lsB : Array Slot} {nL : Nat} {ls : LSt} {i : Nat} {v : AV} (h : LV ad lsA nL ls) (hb : lv_has lsB nL ((i, cv ad v) :: (lvp ad 0 ls).filter (fun q => !(q.1 == i) && (!(q.1 == i + 1) && !(q.1 + 1 == i && q.2.category == 2))))) : LV ad lsB nL (st2 ls i v) := by
  refine ⟨by rw [st2_len]; exact h.1, hb.1, hb.2.1, fun q hq => hb.2.2 q ?_⟩
  obtain ⟨j, w, h1, rfl⟩ := lvp_inv _ _ _ hq
  rw [Nat.zero_add]
  rcases st2_nth ls i j v w h1 with ⟨rfl, rfl⟩ | ⟨h2, h2', h3, h4⟩
  · exact List.mem_cons_self
  · refine List.mem_cons_of_mem _ (List.mem_filter.mpr ⟨by have := lvp_mem (ad := ad) ls 0 j w h3; rw [Nat.zero_add] at this; exact this, ?_⟩)
    have e1 : (j == i) = false := by simpa using h2
    have e3 : (j == i + 1) = false := by simpa using h2'
    show (!(j == i) && (!(j == i + 1) && !(j + 1 == i && (cv ad w).category == 2))) = true
    rw [e1, e3, cv_cat]
    by_cases hw : isL w = true
    · have e2 : (j + 1 == i) = false := by
        have : j + 1 ≠ i := fun z => h4 ⟨z, hw⟩
        simpa using this
      rw [e2]; rfl
    · rw [if_neg hw]
      simp
/-- what a state must know of the classes, of the static arrays, of the nest mates' links -/
def tys0 (G : GT) : List (ClassId × FieldType) := [(G.2.1 0, .int), (G.2.1 1, .long), (G.2.1 2, .boolean), (G.2.1 3, .object RX4)]
abbrev RO : Type := Nat → Option (Nat × (Nat → Int))
def KNs (G : GT) (A : Nat → Prop) (ro : RO) (U : State) (H : Heap) : Prop :=
  va_K G.2.2 vwCl (tys0 G) U ∧ gInj G ∧ (va_Z RX1 "NEAREST" "[I" (.ref (G.1 76)) A U H ∧ va_Z RX1 "SIZE_BODIES" "[I" (.ref (G.1 77)) A U H ∧ va_Z RX1 "MARK_BODIES" "[I" (.ref (G.1 78)) A U H) ∧
  (∀ (k N : Nat) (f : Nat → Int), ro k = some (N, f) → va_T .int (G.1 k) N (fun j => .int (iI (f j))) A U H ∧ N < 2147483648) ∧
  va_Nw (.methodLinkNest RX6 76 yX7_isSignature RX7) U ∧ va_Nw (.methodLinkNest RX6 99 yX7_isKey RX7) U
def Aof (G : GT) : Nat → Prop := fun q => ∃ k, k < 76 ∧ q = G.1 k
theorem KNs.blind {G : GT} {A : Nat → Prop} {ro : RO} {U : State} {H : Heap} (h : KNs G A ro U H) {V : State} (hv : V.vm = U.vm) : KNs G A ro V H := by
  obtain ⟨h1, h2, ⟨z1, z2, z3⟩, h4, h5, h6⟩ := h
  have al : U.vm.Alike V.vm := by rw [hv]; exact Vm.Alike.refl U.vm
  exact ⟨va_K.moved al h1, h2, ⟨z1.moved al, z2.moved al, z3.moved al⟩, fun k N f hk => ⟨(h4 k N f hk).1.moved al, (h4 k N f hk).2⟩, va_Nw.same rfl hv.symm h5, va_Nw.same rfl hv.symm h6⟩
theorem KNs.move {G : GT} {A B : Nat → Prop} {ro ro' : RO} {s U : State} {H0 H : Heap} (h : KNs G A ro s H0) (hW : s.WarmedH U.vm) (hs : H0.size ≤ H.size) (hq : ∀ q : Nat, q < H0.size → ¬ A q → H[q]? = H0[q]?) (hB : ∀ q, B q → A q) (hro : ∀ k N f, ro' k = some (N, f) → ro k = some (N, f)) : KNs G B ro' U H := by
  obtain ⟨h1, h2, ⟨z1, z2, z3⟩, h4, h5, h6⟩ := h
  have al : s.vm.Alike U.vm := hW.alike
  refine ⟨va_K.moved al h1, h2, ⟨((z1.kept hq).narrow hB).moved al, ((z2.kept hq).narrow hB).moved al, ((z3.kept hq).narrow hB).moved al⟩, fun k N f hk => ?_, va_Nw.warmM hW h5, va_Nw.warmM hW h6⟩
  obtain ⟨g1, g4⟩ := h4 k N f (hro k N f hk)
  exact ⟨((g1.kept hq).narrow hB).moved al, g4⟩
def roS : RO := fun k => match k with
  | 76 => some (6, fun j => [0, 0, 1, 1, 0, 4].getD j 0)
  | 77 => some (6, fun j => [10, 11, 12, 11, 13, 14].getD j 0)
  | 78 => some (6, fun j => [20, 21, 24, 22, 23, 23].getD j 0)
  | _ => none
/-- a method's contract: from the world of σ, with the arguments a, it returns, and Q holds of the answer and of the new world -/
def rmOf (n : Nat) : Room := { frames := n + 1, cells := 0, slots := 0, locals := 60 * (n + 1) }
def Pc0 (G : GT) (a : List AV) (σ : HP) : Array Value → State → Prop := fun v U => v = (a.map (cv G.1)).toArray ∧ va_P G.2.2 vwCl (gw G σ) U.heap ∧ KNs G (Aof G) roS U U.heap
def Qc0 (G : GT) (Q : Option AV → HP → Prop) : Array Value → State → Outcome → State → Prop := fun _ st oc t => ∃ (r : Option AV) (σ : HP), oc = .returned (r.map (cv G.1)) ∧ Q r σ ∧ va_P G.2.2 vwCl (gw G σ) t.heap ∧ va_F (Aof G) st t
def AM (l : Launch) (n : Nat) (y : MethodName) (cc : ByteArray) (mL : Nat) (rt : Option FieldType) (a : List AV) (σ : HP) (Q : Option AV → HP → Prop) : Prop := ∀ G : GT, Met l y (Cond.code y cc mL rt :: gtb) (rmOf n) (Pc0 G a σ) (Qc0 G Q) 0 0 (Aof G)
theorem Pc0.blind {G : GT} {a : List AV} {σ : HP} : FrameBlind (Pc0 G a σ) := fun v U g mk h => ⟨h.1, h.2.1, h.2.2.blind rfl⟩
def cpV (own : String) (i : Nat) (e : CE) : Prop := match e with
  | (0, ci, k, _) => ∃ (C : String) (T : u_T) (N : Nat), vwCl[ci.toNat]? = some (C, T, N) ∧ k < N ∧ (∀ w ∈ u_ws C T N, w ∈ gtb) ∧ Cond.fieldLink own i (T k).1 (T k).2.1 (T k).2.2.1 ∈ gtb
  | (5, ci, k, b) => ∃ (C : String) (T : u_T) (N : Nat) (ty : Nat → FieldType), vwCl[ci.toNat]? = some (C, T, N) ∧ k < N ∧ (∀ w ∈ u_ws C T N, w ∈ gtb) ∧ Cond.fieldLink own i (T k).1 (T k).2.1 (T k).2.2.1 ∈ gtb ∧ (∀ k, k < N → parseFieldDescriptor (T k).2.2.1 = some (ty k)) ∧ (∀ a, a < N → ∀ b, b < N → a ≠ b → (T a).2.1 ≠ (T b).2.1) ∧ (T k).2.2.2 = false ∧ parseFieldDescriptor (T k).2.2.1 = some (if b = true then .boolean else .int)
  | (1, z, _) => Cond.constant own i (iI z) ∈ gtb
  | (2, z, _) => Cond.constantLong own i (iL z) ∈ gtb
  | (3, _, p, _) => (p = 76 ∧ Cond.fieldLink own i RX1 "NEAREST" "[I" ∈ gtb) ∨ (p = 77 ∧ Cond.fieldLink own i RX1 "SIZE_BODIES" "[I" ∈ gtb) ∨ (p = 78 ∧ Cond.fieldLink own i RX1 "MARK_BODIES" "[I" ∈ gtb)
  | (4, _) => Cond.methodLink own i arraycopyName ∈ gtb ∧ Cond.native arraycopyName ∈ gtb ∧ Cond.static arraycopyName ∈ gtb ∧ Cond.initialized "java/lang/System" ∈ gtb
  | _ => True
def mV (l : Launch) (R : Room) (own : String) (i : Nat) (e : Nat × Bool × MSpec) : Prop := ∃ (n : Nat) (y : MethodName) (bc : ByteArray) (mL : Nat) (rt : Option FieldType), (rmOf n).frames + 1 ≤ R.frames ∧ 8 + (mL + 11) + (rmOf n).locals ≤ R.locals ∧ Cond.code y bc mL rt ∈ gtb ∧ Cond.initialized y.cls ∈ gtb ∧ (y.cls ≠ "java/lang/invoke/MethodHandle" ∧ y.cls ≠ "java/lang/invoke/VarHandle") ∧
  ((e.2.1 = true ∧ (parseMethodDescriptor y.desc).map (fun d => d.parameters.length + 1) = some e.1 ∧ Cond.methodLink own i y ∈ gtb ∧ Cond.instanceMethod y ∈ gtb ∧ Cond.selects y.cls y y ∈ gtb ∧ ∃ (ci : Nat) (T : u_T) (N : Nat), vwCl[ci]? = some (y.cls, T, N) ∧ ∀ (a : List AV) (σ : HP) (Q : Option AV → HP → Prop), e.2.2 a σ Q → (∃ (p : Nat) (r : List AV), a = .inr (.inl p) :: r ∧ p < 76 ∧ (SH p).1 = 4 ∧ (SH p).2.1 = ci) ∧ AM l n y bc mL rt a σ Q) ∨
   (e.2.1 = false ∧ (parseMethodDescriptor y.desc).map (fun d => d.parameters.length) = some e.1 ∧ Cond.static y ∈ gtb ∧ (Cond.methodLink own i y ∈ gtb ∨ (own = RX6 ∧ ((i = 76 ∧ y = yX7_isSignature) ∨ (i = 99 ∧ y = yX7_isKey)))) ∧ ∀ (a : List AV) (σ : HP) (Q : Option AV → HP → Prop), e.2.2 a σ Q → AM l n y bc mL rt a σ Q))
section SND
variable {p : Program} {l : Launch} {e : Env} {R : Room} {s : State} {m : MethodId} {args : Array Value} {below : List Frame} {meth : Method} {c : Code} {cells slots : Nat}
def AW (p : Program) (l : Launch) (e : Env) (R : Room) (s : State) (m : MethodId) (args : Array Value) (below : List Frame) (meth : Method) (c : Code) (cells slots : Nat) (A : Nat → Prop) (Qf : State → Prop) (nL : Nat) (G : GT) : KT := fun pc ls st σ =>
  ∀ (H : Heap) (locs : List Loc) (lsA : Array Slot), va_P G.2.2 vwCl (gw G σ) H → va_S A s.heap H locs → LV G.1 lsA nL ls → W p l e R s m args below meth c H locs cells slots Qf (F0 m pc lsA (st.map (cv G.1)))
def CX (p : Program) (l : Launch) (R : Room) (s : State) (m : MethodId) (args : Array Value) (c : Code) (cells slots : Nat) (A : Nat → Prop) (cc : ByteArray) (own : String) (nL : Nat) (G : GT) (cp : Nat → Option CE) (mT : Nat → Option (Nat × Bool × MSpec)) (ro : RO) : Prop :=
  p.tables.exec = Jvm.exec ∧ c.code = cc ∧ c.maxLocals = nL ∧ s.vm.findClass own = some m.cls ∧ (∀ w ∈ gtb, w.before args s = true) ∧ (1 ≤ R.frames ∧ 60 ≤ R.locals ∧ cells ≤ R.cells ∧ slots ≤ R.slots) ∧ KNs G A ro s s.heap ∧ (∀ k, k < 76 → A (G.1 k)) ∧ (∀ k N f, roS k = some (N, f) → ro k = some (N, f)) ∧ (∀ i e, cp i = some e → cpV own i e) ∧ ∀ i e, mT i = some e → mV l R own i e
variable {A : Nat → Prop} {Qf : State → Prop} {nL : Nat} {G : GT} {cc : ByteArray} {own : String} {cp : Nat → Option CE} {mT : Nat → Option (Nat × Bool × MSpec)} {ro : RO}
theorem aw_run {pc : Nat} {lsA : Array Slot} {st0 rest : List Value} {H : Heap} {locs : List Loc} {Q : Option AV → HP → Prop} {a : Array Value} (hr : va_Run p l e R s m args below meth c H locs cells slots 0 0 (F0 m pc lsA st0) rest (Qc0 G Q a) (Aof G)) (hS : va_S A s.heap H locs) (hA : ∀ q, Aof G q → A q)
    (kk : ∀ (r : Option AV) (σ : HP) (H1 : Heap) (locs1 : List Loc), Q r σ → va_P G.2.2 vwCl (gw G σ) H1 → va_S A s.heap H1 locs1 → W p l e R s m args below meth c H1 locs1 cells slots Qf (F0 m (pc + 3) lsA ((r.map (cv G.1)).toList ++ rest))) : W p l e R s m args below meth c H locs cells slots Qf (F0 m pc lsA st0) := by
  intro T hT X
  obtain ⟨v, st₀, t, T', L, h0, X', hL, e1, e2, ⟨r, σ, hv, hq, hP, hz, hk⟩, stp⟩ := hr T hT X
  have hv' : v = r.map (cv G.1) := Outcome.returned.inj hv
  subst hv'
  rw [h0] at hz hk
  obtain ⟨t2, a1, b1⟩ := kk r σ T'.heap (locs ++ L) hq (by rw [e1]; exact hP) ⟨Nat.le_trans hS.1 (by rw [e1]; exact hz), fun q h1 h2 => by rw [e1, hk q (Nat.lt_of_lt_of_le h1 hS.1) (fun z => h2 (hA q z))]; exact hS.2.1 q h1 h2, fun q hq => by
      rcases List.mem_append.mp hq with h | h
      · exact hS.2.2 q h
      · exact hA _ (hL q h)⟩ T' rfl X'
  exact ⟨t2, stp t2 a1, b1⟩
end SND
