/-! ===== abstract values, the fixed shape of the two objects, the world of a table of numbers ===== -/
def iI (z : Int) : Int32 := Int32.ofInt z
def iL (z : Int) : Int64 := Int64.ofInt z
def R32 (z : Int) : Prop := -2147483648 ≤ z ∧ z < 2147483648
def R64 (z : Int) : Prop := -9223372036854775808 ≤ z ∧ z < 9223372036854775808
theorem iI_toInt {z : Int} (h : R32 z) : (iI z).toInt = z := by
  obtain ⟨h1, h2⟩ := h
  exact Int32.toInt_ofInt_of_le (by omega) (by omega)
theorem iL_toInt {z : Int} (h : R64 z) : (iL z).toInt = z := by
  obtain ⟨h1, h2⟩ := h
  exact Int64.toInt_ofInt_of_le (by omega) (by omega)
theorem iI_of (x : Int32) : iI x.toInt = x := Int32.ofInt_toInt x
theorem R32_of (x : Int32) : R32 x.toInt := by
  have h1 := Int32.le_toInt x
  have h2 := Int32.toInt_lt x
  exact ⟨by omega, by omega⟩
theorem iI_add (a b : Int) : iI (a + b) = iI a + iI b := Int32.ofInt_add a b
theorem iI_sub (a b : Int) : iI (a - b) = iI a - iI b := Int32.ofInt_sub a b
theorem iI_mul (a b : Int) : iI (a * b) = iI a * iI b := Int32.ofInt_mul a b
theorem iI_neg (a : Int) : iI (-a) = -iI a := Int32.ofInt_neg a
theorem iL_add (a b : Int) : iL (a + b) = iL a + iL b := Int64.ofInt_add a b
theorem iL_mul (a b : Int) : iL (a * b) = iL a * iL b := Int64.ofInt_mul a b
theorem iI_lt {a b : Int} (ha : R32 a) (hb : R32 b) : iI a < iI b ↔ a < b := by rw [Int32.lt_iff_toInt_lt, iI_toInt ha, iI_toInt hb]
theorem iI_le {a b : Int} (ha : R32 a) (hb : R32 b) : iI a ≤ iI b ↔ a ≤ b := by rw [Int32.le_iff_toInt_le, iI_toInt ha, iI_toInt hb]
theorem iI_eq {a b : Int} (ha : R32 a) (hb : R32 b) : iI a = iI b ↔ a = b := by rw [← Int32.toInt_inj, iI_toInt ha, iI_toInt hb]
theorem iL_lt {a b : Int} (ha : R64 a) (hb : R64 b) : iL a < iL b ↔ a < b := by rw [Int64.lt_iff_toInt_lt, iL_toInt ha, iL_toInt hb]
theorem iL_eq {a b : Int} (ha : R64 a) (hb : R64 b) : iL a = iL b ↔ a = b := by rw [← Int64.toInt_inj, iL_toInt ha, iL_toInt hb]
theorem iI_0 : iI 0 = 0 := by decide +kernel
theorem R32_0 : R32 0 := ⟨by decide, by decide⟩
theorem iI_div {a b : Int} (ha : R32 a) (hb : R32 b) : iI a / iI b = iI (a.tdiv b) := by
  obtain ⟨h1, h2⟩ := ha
  obtain ⟨h3, h4⟩ := hb
  have e1 : Int32.minValue.toInt = -2147483648 := by decide +kernel
  have e2 : Int32.maxValue.toInt = 2147483647 := by decide +kernel
  exact (Int32.ofInt_tdiv (by omega) (by omega) (by omega) (by omega)).symm
theorem iL_div {a b : Int} (ha : R64 a) (hb : R64 b) : iL a / iL b = iL (a.tdiv b) := by
  obtain ⟨h1, h2⟩ := ha
  obtain ⟨h3, h4⟩ := hb
  have e1 : Int64.minValue.toInt = -9223372036854775808 := by decide +kernel
  have e2 : Int64.maxValue.toInt = 9223372036854775807 := by decide +kernel
  exact (Int64.ofInt_tdiv (by omega) (by omega) (by omega) (by omega)).symm
theorem iI_rem {a b : Int} (ha : R32 a) (hb : R32 b) : iI a - iI a / iI b * iI b = iI (a.tmod b) := by
  rw [iI_div ha hb, ← iI_mul, ← iI_sub, Int.tmod_def, Int.mul_comm]
theorem iL_rem {a b : Int} (ha : R64 a) (hb : R64 b) : iL a - iL a / iL b * iL b = iL (a.tmod b) := by
  rw [iL_div ha hb, ← iL_mul, show ∀ x y : Int, iL x - iL y = iL (x - y) from fun x y => (Int64.ofInt_sub x y).symm, Int.tmod_def, Int.mul_comm]
theorem iI_ne0 {b : Int} (hb : R32 b) (h : b ≠ 0) : ¬ iI b = 0 := fun q => h ((iI_eq hb R32_0).mp (q.trans iI_0.symm))
theorem iL_ne0 {b : Int} (hb : R64 b) (h : b ≠ 0) : ¬ iL b = 0 := fun q => h ((iL_eq hb ⟨by decide, by decide⟩).mp (q.trans (by decide +kernel)))
theorem iI_long {a : Int} (ha : R32 a) : (iI a).toInt64 = iL a := by
  obtain ⟨h1, h2⟩ := ha
  have e1 : Int32.minValue.toInt = -2147483648 := by decide +kernel
  have e2 : Int32.maxValue.toInt = 2147483647 := by decide +kernel
  exact Int32.toInt64_ofInt (by omega) (by omega)
theorem iL_int (a : Int) : (iL a).toInt32 = iI a := Int64.toInt32_ofInt
theorem iI_in {i : Int} {n : Nat} (h0 : 0 ≤ i) (h1 : i < n) (hn : n < 2147483648) : vp_in (iI i) n ∧ (iI i).toNatClampNeg = i.toNat := by
  have hi : (iI i).toInt = i := iI_toInt ⟨by omega, by omega⟩
  refine ⟨vp_in_iff.mpr ⟨by rw [hi]; exact h0, by rw [hi]; exact h1⟩, ?_⟩
  show (iI i).toInt.toNat = i.toNat
  rw [hi]
theorem iI_bi {n : Int} (h : -128 ≤ n ∧ n < 128) : (Int8.ofInt n).toInt32 = iI n := by
  apply Int32.toInt_inj.mp
  rw [iI_toInt ⟨by omega, by omega⟩, Int8.toInt_toInt32, Int8.toInt_ofInt_of_le (by omega) (by omega)]
theorem iI_si {n : Int} (h : -32768 ≤ n ∧ n < 32768) : (Int16.ofInt n).toInt32 = iI n := by
  apply Int32.toInt_inj.mp
  rw [iI_toInt ⟨by omega, by omega⟩, Int16.toInt_toInt32, Int16.toInt_ofInt_of_le (by omega) (by omega)]
/-- an int, a cell (by its place), a long -/
abbrev AV : Type := Int ⊕ Nat ⊕ Int
abbrev HP : Type := Nat → Nat → Int
abbrev GT : Type := (Nat → Nat) × (Nat → ClassId) × va_G
def cv (ad : Nat → Nat) (v : AV) : Value := match v with
  | .inl z => .int (iI z)
  | .inr (.inl k) => .ref (ad k)
  | .inr (.inr z) => .long (iL z)
/-- the cells: 0 ints, 1 longs, 2 booleans, 3 cells, 4 an object (class, its fields: a cell's place or a number) -/
def SH (p : Nat) : Nat × Nat × List (Option Nat) := match p with
  | 0 => (4, 6, [some 1, some 5, some 7, some 14, some 22, some 29, some 37, some 38, some 42, none, none, none, none, none, none])
  | 1 => (4, 4, [some 2, some 3, some 4])
  | 2 => (0, 320, [])
  | 3 => (0, 8, [])
  | 4 => (0, 8, [])
  | 5 => (4, 5, [some 6, none, none, none, none, none, none, none, none, none])
  | 6 => (0, 130, [])
  | 7 => (4, 3, [none, none, none, some 8, some 9, some 10, some 11, some 12, some 13])
  | 8 => (0, 10, [])
  | 9 => (0, 10, [])
  | 10 => (0, 10, [])
  | 11 => (0, 11, [])
  | 12 => (0, 40, [])
  | 13 => (0, 40, [])
  | 14 => (4, 2, [none, none, none, some 15, some 16, some 17, some 18, some 19, some 20, some 21])
  | 15 => (0, 10, [])
  | 16 => (0, 40, [])
  | 17 => (0, 40, [])
  | 18 => (0, 240, [])
  | 19 => (1, 240, [])
  | 20 => (0, 240, [])
  | 21 => (0, 7, [])
  | 22 => (4, 3, [none, none, none, some 23, some 24, some 25, some 26, some 27, some 28])
  | 23 => (0, 10, [])
  | 24 => (0, 10, [])
  | 25 => (0, 10, [])
  | 26 => (0, 11, [])
  | 27 => (0, 40, [])
  | 28 => (0, 40, [])
  | 29 => (4, 2, [none, none, none, some 30, some 31, some 32, some 33, some 34, some 35, some 36])
  | 30 => (0, 10, [])
  | 31 => (0, 40, [])
  | 32 => (0, 40, [])
  | 33 => (0, 240, [])
  | 34 => (1, 240, [])
  | 35 => (0, 240, [])
  | 36 => (0, 7, [])
  | 37 => (3, 2, [some 44, some 51])
  | 38 => (4, 0, [none, some 39, some 40, some 41])
  | 39 => (0, 16, [])
  | 40 => (0, 16, [])
  | 41 => (0, 16, [])
  | 42 => (4, 1, [none, some 43, none, none, none, none])
  | 43 => (0, 16, [])
  | 44 => (4, 3, [none, none, none, some 45, some 46, some 47, some 48, some 49, some 50])
  | 45 => (0, 10, [])
  | 46 => (0, 10, [])
  | 47 => (0, 10, [])
  | 48 => (0, 11, [])
  | 49 => (0, 40, [])
  | 50 => (0, 40, [])
  | 51 => (4, 3, [none, none, none, some 52, some 53, some 54, some 55, some 56, some 57])
  | 52 => (0, 10, [])
  | 53 => (0, 10, [])
  | 54 => (0, 10, [])
  | 55 => (0, 11, [])
  | 56 => (0, 40, [])
  | 57 => (0, 40, [])
  | 58 => (4, 7, [some 59, some 60, some 61, some 62, none, some 63, none, none, none, none, none, none, none, some 64, some 65, some 66, some 67, none, some 68, some 69, some 70, some 71, some 72, none, some 73, some 74, some 75, none])
  | 59 => (0, 8, [])
  | 60 => (0, 8, [])
  | 61 => (0, 320, [])
  | 62 => (0, 40, [])
  | 63 => (0, 130, [])
  | 64 => (0, 93, [])
  | 65 => (0, 93, [])
  | 66 => (0, 93, [])
  | 67 => (0, 1488, [])
  | 68 => (0, 186, [])
  | 69 => (2, 2, [])
  | 70 => (0, 240, [])
  | 71 => (0, 240, [])
  | 72 => (0, 10, [])
  | 73 => (0, 7, [])
  | 74 => (0, 40, [])
  | 75 => (0, 16, [])
  | _ => (9, 0, [])
theorem SH_small (p : Nat) : (SH p).2.1 < 2147483648 := by
  unfold SH
  split <;> decide
def ceV (ad : Nat → Nat) (f : Nat → Int) : Nat → List (Option Nat) → List Value
  | _, [] => []
  | k, none :: r => Value.int (iI (f k)) :: ceV ad f (k + 1) r
  | k, some q :: r => Value.ref (ad q) :: ceV ad f (k + 1) r
def ce (G : GT) (sh : Nat × Nat × List (Option Nat)) (f : Nat → Int) : va_E :=
  match sh with
  | (0, n, _) => .inl (G.2.1 0, n, .inl (fun j => iI (f j)))
  | (1, n, _) => .inl (G.2.1 1, n, .inr (.inl (fun j => iL (f j))))
  | (2, n, _) => .inl (G.2.1 2, n, .inl (fun j => iI (f j)))
  | (3, n, rs) => .inl (G.2.1 3, n, .inr (.inr (.inr (.inr (fun j => (rs.getD j none).map G.1)))))
  | (_, ci, rs) => .inr (ci, ceV G.1 f 0 rs)
def gw (G : GT) (σ : HP) : va_W := (List.range 76).map (fun p => (G.1 p, ce G (SH p) (σ p)))
theorem gw_get {G : GT} {σ : HP} {p : Nat} (hp : p < 76) : (gw G σ)[p]? = some (G.1 p, ce G (SH p) (σ p)) := by
  simp [gw, hp]
theorem gw_inv {G : GT} {σ : HP} {p : Nat} {q : Nat × va_E} (h : (gw G σ)[p]? = some q) : p < 76 ∧ q = (G.1 p, ce G (SH p) (σ p)) := by
  by_cases hp : p < 76
  · rw [gw_get hp] at h
    exact ⟨hp, (Option.some.inj h).symm⟩
  · have : (gw G σ)[p]? = none := by simp [gw]; omega
    rw [this] at h
    cases h
def hset (σ : HP) (p k : Nat) (v : Int) : HP := fun q j => if q = p ∧ j = k then v else σ q j
theorem hset_ne {σ : HP} {p k q : Nat} {v : Int} (h : q ≠ p) : hset σ p k v q = σ q := by
  funext j
  simp [hset, h]
theorem hset_eq {σ : HP} {p k : Nat} {v : Int} : hset σ p k v p = fun j => if j = k then v else σ p j := by
  funext j
  simp [hset]
theorem gw_set {G : GT} {σ σ' : HP} {p : Nat} {E : va_E} (hp : p < 76) (hq : ∀ q, q ≠ p → σ' q = σ q) (hE : ce G (SH p) (σ' p) = E) : (gw G σ).set p (G.1 p, E) = gw G σ' := by
  subst hE
  apply List.ext_getElem?
  intro i
  by_cases hi : i < 76
  · rw [List.getElem?_set, gw_get hi, gw_get hi]
    by_cases e : p = i
    · subst e
      simp [gw, hi]
    · rw [if_neg e, hq i (fun z => e z.symm)]
  · have l1 : ∀ τ : HP, (gw G τ).length = 76 := fun τ => by simp [gw]
    rw [List.getElem?_eq_none (by rw [List.length_set, l1]; omega), List.getElem?_eq_none (by rw [l1]; omega)]
def gInj (G : GT) : Prop := ∀ i j, i < 76 → j < 76 → G.1 i = G.1 j → i = j
theorem gw_D {G : GT} {σ : HP} {A : Nat → Prop} (hi : gInj G) (hA : ∀ k, k < 76 → A (G.1 k)) : va_D A (gw G σ) := by
  refine ⟨fun i j p q h1 h2 e => ?_, fun k q h => ?_⟩
  · obtain ⟨a1, rfl⟩ := gw_inv h1
    obtain ⟨a2, rfl⟩ := gw_inv h2
    exact hi i j a1 a2 e
  · obtain ⟨a1, rfl⟩ := gw_inv h
    exact hA k a1
/-- the words that stay true -/
def gtb : List Cond := lw_tbl.filter goodWord
theorem gtm {w : Cond} (i : Nat) (h : tables_1[i]? = some w) (g : goodWord w = true) : w ∈ gtb := List.mem_filter.mpr ⟨List.mem_append_right _ (List.mem_of_getElem? h), g⟩
theorem gts {w : Cond} (i : Nat) (h : (k2_sels lw_privs)[i]? = some w) (g : goodWord w = true) : w ∈ gtb := List.mem_filter.mpr ⟨List.mem_append_left _ (List.mem_of_getElem? h), g⟩
theorem gtb_good {w : Cond} (h : w ∈ gtb) : goodWord w = true := (List.mem_filter.mp h).2
