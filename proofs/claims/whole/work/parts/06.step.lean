/-! ===== each instruction of the abstract machine is the machine's ===== -/
theorem ldI_inv {ls : LSt} {j : Nat} {st : List AV} {k : List AV → Prop} (h : ldI ls j st k) : ∃ z, lnth ls j = some (.inl z) ∧ k (.inl z :: st) := by
  unfold ldI at h
  split at h
  · exact ⟨_, ‹_›, h⟩
  · exact h.elim
theorem ldA_inv {ls : LSt} {j : Nat} {st : List AV} {k : List AV → Prop} (h : ldA ls j st k) : ∃ z, lnth ls j = some (.inr (.inl z)) ∧ k (.inr (.inl z) :: st) := by
  unfold ldA at h
  split at h
  · exact ⟨_, ‹_›, h⟩
  · exact h.elim
theorem ldL_inv {ls : LSt} {j : Nat} {st : List AV} {k : List AV → Prop} (h : ldL ls j st k) : ∃ z, lnth ls j = some (.inr (.inr z)) ∧ k (.inr (.inr z) :: st) := by
  unfold ldL at h
  split at h
  · exact ⟨_, ‹_›, h⟩
  · exact h.elim
theorem stI_inv {ls : LSt} {j : Nat} {st : List AV} {k : LSt → List AV → Prop} (h : stI ls j st k) : ∃ z r, st = .inl z :: r ∧ j < ls.length ∧ k (st1 ls j (.inl z)) r := by
  unfold stI at h
  split at h
  · exact ⟨_, _, rfl, h⟩
  · exact h.elim
theorem stA_inv {ls : LSt} {j : Nat} {st : List AV} {k : LSt → List AV → Prop} (h : stA ls j st k) : ∃ z r, st = .inr (.inl z) :: r ∧ j < ls.length ∧ k (st1 ls j (.inr (.inl z))) r := by
  unfold stA at h
  split at h
  · exact ⟨_, _, rfl, h⟩
  · exact h.elim
theorem stL_inv {ls : LSt} {j : Nat} {st : List AV} {k : LSt → List AV → Prop} (h : stL ls j st k) : ∃ z r, st = .inr (.inr z) :: r ∧ j + 1 < ls.length ∧ k (st2 ls j (.inr (.inr z))) r := by
  unfold stL at h
  split at h
  · exact ⟨_, _, rfl, h⟩
  · exact h.elim
theorem bin_inv {f : Int → Int → Int} {st : List AV} {k : List AV → Prop} (h : bin f st k) : ∃ x y r, st = .inl y :: .inl x :: r ∧ k (.inl (f x y) :: r) := by
  unfold bin at h
  split at h
  · exact ⟨_, _, _, rfl, h⟩
  · exact h.elim
theorem binD_inv {f : Int → Int → Int} {st : List AV} {k : List AV → Prop} (h : binD f st k) : ∃ x y r, st = .inl y :: .inl x :: r ∧ R32 x ∧ R32 y ∧ y ≠ 0 ∧ k (.inl (f x y) :: r) := by
  unfold binD at h
  split at h
  · exact ⟨_, _, _, rfl, h⟩
  · exact h.elim
theorem binL_inv {f : Int → Int → Int} {st : List AV} {k : List AV → Prop} (h : binL f st k) : ∃ x y r, st = .inr (.inr y) :: .inr (.inr x) :: r ∧ k (.inr (.inr (f x y)) :: r) := by
  unfold binL at h
  split at h
  · exact ⟨_, _, _, rfl, h⟩
  · exact h.elim
theorem binDL_inv {f : Int → Int → Int} {st : List AV} {k : List AV → Prop} (h : binDL f st k) : ∃ x y r, st = .inr (.inr y) :: .inr (.inr x) :: r ∧ R64 x ∧ R64 y ∧ y ≠ 0 ∧ k (.inr (.inr (f x y)) :: r) := by
  unfold binDL at h
  split at h
  · exact ⟨_, _, _, rfl, h⟩
  · exact h.elim
theorem una_inv {f : Int → Int} {st : List AV} {k : List AV → Prop} (h : una f st k) : ∃ x r, st = .inl x :: r ∧ k (.inl (f x) :: r) := by
  unfold una at h
  split at h
  · exact ⟨_, _, rfl, h⟩
  · exact h.elim
theorem gfX_inv {e : Option (Nat × Nat)} {st : List AV} {σ : HP} {k : List AV → Prop} (h : gfX e st σ k) : ∃ ci f p r v, e = some (ci, f) ∧ st = .inr (.inl p) :: r ∧ p < 76 ∧ gfV (SH p) σ p ci f = some v ∧ k (v :: r) := by
  unfold gfX at h
  split at h
  · split at h
    · obtain ⟨h1, h2⟩ := h
      split at h2
      · exact ⟨_, _, _, _, _, rfl, rfl, h1, ‹_›, h2⟩
      · exact h2.elim
    · exact h.elim
  · exact h.elim
theorem pfX_inv {e : Option (Nat × Nat × Bool)} {st : List AV} {σ : HP} {k : List AV → HP → Prop} (h : pfX e st σ k) : ∃ ci f b v p r, e = some (ci, f, b) ∧ st = .inl v :: .inr (.inl p) :: r ∧ p < 76 ∧ pfV (SH p) ci f = true ∧ (b = true → v = 0 ∨ v = 1) ∧ k r (hset σ p f v) := by
  unfold pfX at h
  split at h
  · split at h
    · exact ⟨_, _, _, _, _, _, rfl, rfl, h⟩
    · exact h.elim
  · exact h.elim
theorem cpF_inv {e : Option CE} {ci f : Nat} (h : cpF e = some (ci, f)) : ∃ z b, (e = some (0, z, f, b) ∨ e = some (5, z, f, b)) ∧ ci = z.toNat := by
  unfold cpF at h
  split at h
  · cases h; exact ⟨_, _, Or.inl rfl, rfl⟩
  · cases h; exact ⟨_, _, Or.inr rfl, rfl⟩
  · cases h
theorem cpP_inv {e : Option CE} {ci f : Nat} {b : Bool} (h : cpP e = some (ci, f, b)) : ∃ z, e = some (5, z, f, b) ∧ ci = z.toNat := by
  unfold cpP at h
  split at h
  · cases h; exact ⟨_, rfl, rfl⟩
  · cases h
theorem ceV_get (ad : Nat → Nat) (f : Nat → Int) : ∀ (rs : List (Option Nat)) (k j : Nat), (ceV ad f k rs)[j]? = (rnth rs j).map (fun o => match o with | some q => Value.ref (ad q) | none => Value.int (iI (f (k + j))))
  | [], k, j => by simp [ceV, rnth]
  | none :: r, k, 0 => by simp [ceV, rnth]
  | some q :: r, k, 0 => by simp [ceV, rnth]
  | none :: r, k, j + 1 => by
    have := ceV_get ad f r (k + 1) j
    simp only [ceV, rnth, List.getElem?_cons_succ]
    rw [this, show k + 1 + j = k + (j + 1) by omega]
  | some q :: r, k, j + 1 => by
    have := ceV_get ad f r (k + 1) j
    simp only [ceV, rnth, List.getElem?_cons_succ]
    rw [this, show k + 1 + j = k + (j + 1) by omega]
theorem ceV_len (ad : Nat → Nat) (f : Nat → Int) : ∀ (rs : List (Option Nat)) (k : Nat), (ceV ad f k rs).length = rs.length
  | [], k => rfl
  | none :: r, k => congrArg Nat.succ (ceV_len ad f r (k + 1))
  | some q :: r, k => congrArg Nat.succ (ceV_len ad f r (k + 1))
theorem rnth_lt : ∀ (rs : List (Option Nat)) (j : Nat) (o : Option Nat), rnth rs j = some o → j < rs.length
  | [], j, o, h => by simp [rnth] at h
  | _ :: r, 0, o, h => by simp
  | _ :: r, j + 1, o, h => by simpa using rnth_lt r j o h
theorem rnth_getD : ∀ (rs : List (Option Nat)) (j : Nat) (o : Option Nat), rnth rs j = some o → rs.getD j none = o
  | [], j, o, h => by simp [rnth] at h
  | _ :: r, 0, o, h => by simpa [rnth] using h
  | _ :: r, j + 1, o, h => by
    have := rnth_getD r j o h
    simpa using this
/-- one number of an object is another -/
theorem ceV_set (ad : Nat → Nat) (f : Nat → Int) (v : Int) : ∀ (rs : List (Option Nat)) (k j : Nat), rnth rs j = some none → ceV ad (fun q => if q = k + j then v else f q) k rs = (ceV ad f k rs).set j (.int (iI v))
  | [], k, j, h => by simp [rnth] at h
  | none :: r, k, 0, h => by
    simp only [ceV, List.set_cons_zero, Nat.add_zero, if_true]
    congr 1
    have : ∀ (r : List (Option Nat)) (a : Nat), k < a → ceV ad (fun q => if q = k then v else f q) a r = ceV ad f a r := by
      intro r
      induction r with
      | nil => intro a _; rfl
      | cons o r ih =>
        intro a ha
        rcases o with _ | q
        · simp only [ceV]
          rw [ih (a + 1) (by omega), if_neg (by omega)]
        · simp only [ceV]
          rw [ih (a + 1) (by omega)]
    exact this r (k + 1) (by omega)
  | some q :: r, k, 0, h => by simp [rnth] at h
  | none :: r, k, j + 1, h => by
    have := ceV_set ad f v r (k + 1) j h
    simp only [ceV, List.set_cons_succ]
    rw [show k + (j + 1) = k + 1 + j by omega, this, if_neg (by omega)]
  | some q :: r, k, j + 1, h => by
    have := ceV_set ad f v r (k + 1) j h
    simp only [ceV, List.set_cons_succ]
    rw [show k + (j + 1) = k + 1 + j by omega, this]
theorem ce_obj {G : GT} {sh : Nat × Nat × List (Option Nat)} {f : Nat → Int} (h : sh.1 = 4) : ce G sh f = .inr (sh.2.1, ceV G.1 f 0 sh.2.2) := by
  obtain ⟨a, b, c⟩ := sh
  simp only at h
  subst h
  rfl
theorem ce_int {G : GT} {sh : Nat × Nat × List (Option Nat)} {f : Nat → Int} (h : sh.1 = 0) : ce G sh f = .inl (G.2.1 0, sh.2.1, .inl (fun j => iI (f j))) := by
  obtain ⟨a, b, c⟩ := sh
  simp only at h
  subst h
  rfl
theorem ce_long {G : GT} {sh : Nat × Nat × List (Option Nat)} {f : Nat → Int} (h : sh.1 = 1) : ce G sh f = .inl (G.2.1 1, sh.2.1, .inr (.inl (fun j => iL (f j)))) := by
  obtain ⟨a, b, c⟩ := sh
  simp only at h
  subst h
  rfl
theorem ce_bool {G : GT} {sh : Nat × Nat × List (Option Nat)} {f : Nat → Int} (h : sh.1 = 2) : ce G sh f = .inl (G.2.1 2, sh.2.1, .inl (fun j => iI (f j))) := by
  obtain ⟨a, b, c⟩ := sh
  simp only at h
  subst h
  rfl
theorem ce_refs {G : GT} {sh : Nat × Nat × List (Option Nat)} {f : Nat → Int} (h : sh.1 = 3) : ce G sh f = .inl (G.2.1 3, sh.2.1, .inr (.inr (.inr (.inr (fun j => (sh.2.2.getD j none).map G.1))))) := by
  obtain ⟨a, b, c⟩ := sh
  simp only at h
  subst h
  rfl
theorem gfV_inv {sh : Nat × Nat × List (Option Nat)} {σ : HP} {p ci k : Nat} {v : AV} (h : gfV sh σ p ci k = some v) : sh.1 = 4 ∧ sh.2.1 = ci ∧ ∃ o, rnth sh.2.2 k = some o ∧ v = (match o with | some q => .inr (.inl q) | none => .inl (σ p k)) := by
  obtain ⟨a, b, c⟩ := sh
  unfold gfV at h
  split at h
  · rename_i cj rs heq
    cases heq
    split at h
    · rename_i hc
      split at h
      · rename_i q hq
        cases h
        exact ⟨rfl, hc, _, hq, rfl⟩
      · rename_i hq
        cases h
        exact ⟨rfl, hc, _, hq, rfl⟩
      · cases h
    · cases h
  · cases h
theorem pfV_inv {sh : Nat × Nat × List (Option Nat)} {ci k : Nat} (h : pfV sh ci k = true) : sh.1 = 4 ∧ sh.2.1 = ci ∧ rnth sh.2.2 k = some none := by
  obtain ⟨a, b, c⟩ := sh
  unfold pfV at h
  split at h
  · rename_i cj rs heq
    cases heq
    split at h
    · rename_i hc
      split at h
      · exact ⟨rfl, hc, ‹_›⟩
      · cases h
    · cases h
  · cases h
theorem acV_inv {sh : Nat × Nat × List (Option Nat)} {ro : RO} {σ : HP} {p : Nat} {i : Int} {k : Int → Prop} (h : acV sh ro σ p i k) : (sh.1 = 0 ∧ 0 ≤ i ∧ i < (sh.2.1 : Int) ∧ k (σ p i.toNat)) ∨ (sh.1 = 9 ∧ ∃ n f, ro p = some (n, f) ∧ 0 ≤ i ∧ i < (n : Int) ∧ k (f i.toNat)) := by
  obtain ⟨a, b, c⟩ := sh
  unfold acV at h
  split at h
  · rename_i n x heq
    cases heq
    exact Or.inl ⟨rfl, h⟩
  · rename_i n x heq
    cases heq
    split at h
    · exact Or.inr ⟨rfl, _, _, ‹_›, h⟩
    · exact h.elim
  · exact h.elim
theorem SH_lt {p : Nat} (h : (SH p).1 ≠ 9) : p < 76 := by
  rcases Nat.lt_or_ge p 76 with q | q
  · exact q
  · exfalso
    apply h
    unfold SH
    split <;> first | omega | rfl
theorem acpy_inv {st : List AV} {σ : HP} {k : List AV → HP → Prop} (h : acpy st σ k) : ∃ n dp b sp a r, st = .inl n :: .inl dp :: .inr (.inl b) :: .inl sp :: .inr (.inl a) :: r ∧ a < 76 ∧ b < 76 ∧ (SH a).1 = 0 ∧ (SH b).1 = 0 ∧ r.length ≤ 2 ∧ 0 ≤ sp ∧ 0 ≤ dp ∧ 0 ≤ n ∧ sp + n ≤ ((SH a).2.1 : Int) ∧ dp + n ≤ ((SH b).2.1 : Int) ∧ k r (hcpy σ a sp b dp n) := by
  unfold acpy at h
  split at h
  · exact ⟨_, _, _, _, _, _, rfl, h⟩
  · exact h.elim
theorem inv_inv {mT : Nat → Option (Nat × Bool × MSpec)} {i : Nat} {is : Bool} {st : List AV} {σ : HP} {k : List AV → HP → Prop} (h : inv mT i is st σ k) : ∃ n S, mT i = some (n, is, S) ∧ n ≤ st.length ∧ (st.drop n).length ≤ 4 ∧ S (st.take n).reverse σ (fun r σ' => k (r.toList ++ st.drop n) σ') := by
  unfold inv at h
  split at h
  · rename_i n b S hm
    obtain ⟨rfl, h⟩ := h
    exact ⟨n, S, hm, h⟩
  · exact h.elim
theorem tsw_in {pc : Nat} {x : Int} {k : Nat → Prop} : ∀ (os : List Int) (lo : Int) (j : Nat), tsw pc x k lo os → x = lo + j → ∀ o, os[j]? = some o → tgo pc o k
  | [], lo, j, h, hx, o, ho => by simp at ho
  | a :: r, lo, 0, h, hx, o, ho => by
    simp only [List.getElem?_cons_zero, Option.some.injEq] at ho
    subst ho
    exact h.1 (by omega)
  | a :: r, lo, j + 1, h, hx, o, ho => tsw_in r (lo + 1) j h.2 (by omega) o (by simpa using ho)
theorem lsw_in {pc : Nat} {x d : Int} {k : Nat → Prop} : ∀ (ps : List (Int × Int)), lsw pc x d k ps → tgo pc (Op.lookupswitch.offset ps d x) k
  | [], h => h
  | (a, o) :: r, h => by
    rw [Op.lookupswitch.offset_cons]
    by_cases e : x = a
    · rw [if_pos (by rw [e])]
      exact h.1 e
    · rw [if_neg (fun q => e q.symm)]
      exact lsw_in r (h.2 e)
theorem cat_le (ad : Nat → Nat) : ∀ (r : List AV), ((r.map (cv ad)).map fun v => v.category).sum ≤ 2 * r.length
  | [] => by simp
  | v :: r => by
    have h1 := cat_le ad r
    have h2 : (cv ad v).category ≤ 2 := by rw [cv_cat]; split <;> omega
    simp only [List.map_cons, List.sum_cons, List.length_cons]
    omega
