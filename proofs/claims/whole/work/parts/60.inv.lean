/-! ===== what holds between the class and the reference, between two calls ===== -/
def rowI (σ : HP) : Prop := iRow σ ∧ (∀ r : Nat, r < 8 → (σ 59 r = if σ 4 r = -1 then -1000000 else σ 3 r) ∧ (0 ≤ σ 60 r ∧ σ 60 r ≤ 40) ∧ (σ 4 r ≠ -1 → σ 60 r = σ 4 r ∧ ∀ j : Nat, (j : Int) < σ 4 r → σ 61 (40 * r + j) = σ 2 (40 * r + j))) ∧ ∀ j, R32 (σ 61 j)
def tapI (σ : HP) : Prop := tpk σ ∧ σ 58 6 = σ 5 1 ∧ σ 63 = σ 6
def pceI (σ : HP) : Prop := xPre σ ∧ vM σ 64 0 = vC σ 7
/-- an act's entry: what it undoes -/
def unR (s w b : Int) (V V' : HP) : Prop := okV V' ∧ ((s = 0 ∧ (0 ≤ w ∧ w < V 0 2) ∧ V' = hset V 6 w.toNat b) ∨ (s = 1 ∧ (0 ≤ w ∧ w < V 0 1) ∧ V' = hset V 1 w.toNat b) ∨ (s = 2 ∧ V' = hset V 0 0 b) ∨ (s = 3 ∧ (-6 ≤ b ∧ b ≤ 6) ∧ V' = shV V (-b)))
def nxV (σ : HP) (i : Nat) : HP := if (i : Int) + 1 = σ 38 0 then vC σ 7 else vM σ 67 (93 * (i + 1))
def actI (σ : HP) : Prop := σ 58 17 = σ 38 0 ∧ (0 ≤ σ 38 0 ∧ σ 38 0 ≤ 16) ∧ ∀ i : Nat, (i : Int) < σ 38 0 → unR (σ 39 i) (σ 40 i) (σ 41 i) (nxV σ i) (vM σ 67 (93 * i))
def imgI (σ : HP) (k : Nat) : Prop := (σ 69 k = 0 ∨ σ 69 k = 1) ∧ okV (vC σ (44 + 7 * k)) ∧ coOk σ (44 + 7 * k) ∧ (σ 69 k = 0 ↔ σ (44 + 7 * k) 1 = 0) ∧ (σ 69 k = 1 → vM σ 68 (93 * k) = vC σ (44 + 7 * k))
def traI (σ : HP) : Prop := σ 58 27 = σ 42 0 ∧ (0 ≤ σ 42 0 ∧ σ 42 0 ≤ 16) ∧ ∀ j : Nat, (j : Int) < σ 42 0 → σ 75 j = σ 43 j
def INV0 (σ : HP) : Prop := rowI σ ∧ tapI σ ∧ pceI σ ∧ actI σ ∧ (imgI σ 0 ∧ imgI σ 1) ∧ traI σ ∧ σ 58 7 = σ 0 13
def INV (σ : HP) : Prop := INV0 σ ∧ σ 58 4 = σ 0 14
theorem rowI_c {σ τ : HP} (h : rowI σ) (e2 : τ 2 = σ 2) (e3 : τ 3 = σ 3) (e4 : τ 4 = σ 4) (e59 : τ 59 = σ 59) (e60 : τ 60 = σ 60) (e61 : τ 61 = σ 61) : rowI τ := by
  unfold rowI iRow at h ⊢
  rw [e2, e3, e4, e59, e60, e61]
  exact h
theorem tapI_c {σ τ : HP} (h : tapI σ) (e5 : τ 5 1 = σ 5 1) (e6 : τ 6 = σ 6) (e58 : τ 58 6 = σ 58 6) (e63 : τ 63 = σ 63) : tapI τ := by
  unfold tapI tpk at h ⊢
  rw [e5, e6, e58, e63]
  exact h
theorem actI_c {σ τ : HP} (h : actI σ) (e38 : τ 38 = σ 38) (e39 : τ 39 = σ 39) (e40 : τ 40 = σ 40) (e41 : τ 41 = σ 41) (e58 : τ 58 17 = σ 58 17) (e67 : τ 67 = σ 67) (ev : vC τ 7 = vC σ 7) : actI τ := by
  unfold actI nxV at h ⊢
  rw [e38, e39, e40, e41, e58, ev]
  have : ∀ o, vM τ 67 o = vM σ 67 o := fun o => vM_only e67
  simp only [this]
  exact h
theorem vC_rows {σ τ : HP} {p : Nat} (h : ∀ i, i ≤ 6 → τ (p + i) = σ (p + i)) : vC τ p = vC σ p := by
  have h0 : τ p = σ p := h 0 (by omega)
  funext k c
  rcases k with _ | _ | _ | _ | _ | _ | _ | k <;> simp only [vC]
  · rw [h0]
  · rw [h0, h 1 (by omega)]
  · rw [h0, h 2 (by omega)]
  · rw [h0, h 3 (by omega)]
  · rw [h0, h 4 (by omega)]
  · rw [h0, h 4 (by omega)]
  · rw [h0, h 5 (by omega)]
theorem coOk_rows {σ τ : HP} {p : Nat} (h : ∀ i, i ≤ 6 → τ (p + i) = σ (p + i)) (hc : coOk σ p) : coOk τ p := by
  have hv := vC_rows h
  unfold coOk at hc ⊢
  rw [hv, h 6 (by omega), show τ p = σ p from h 0 (by omega)]
  exact hc
theorem imgI_c {σ τ : HP} {k : Nat} (h : imgI σ k) (er : ∀ i, i ≤ 6 → τ (44 + 7 * k + i) = σ (44 + 7 * k + i)) (e68 : τ 68 = σ 68) (e69 : τ 69 = σ 69) : imgI τ k := by
  obtain ⟨h1, h2, h3, h4, h5⟩ := h
  have hv := vC_rows er
  have hm : vM τ 68 (93 * k) = vM σ 68 (93 * k) := vM_only e68
  have e0 : τ (44 + 7 * k) = σ (44 + 7 * k) := er 0 (by omega)
  refine ⟨by rw [e69]; exact h1, by rw [hv]; exact h2, coOk_rows er h3, by rw [e69, e0]; exact h4, by rw [e69, hm, hv]; exact h5⟩
theorem traI_c {σ τ : HP} (h : traI σ) (e42 : τ 42 0 = σ 42 0) (e43 : τ 43 = σ 43) (e58 : τ 58 27 = σ 58 27) (e75 : τ 75 = σ 75) : traI τ := by
  unfold traI at h ⊢
  rw [e42, e43, e58, e75]
  exact h
/-- the class answered a question -/
theorem INV0_x {σ τ : HP} (h : xS σ τ) (hI : INV0 σ) : INV0 τ := by
  obtain ⟨i1, i2, i3, i4, i5, i6, i7⟩ := hI
  have o : ∀ q, ¬ xP q → τ q = σ q := h.1
  have e58 : τ 58 = σ 58 := o 58 (by unfold xP; omega)
  refine ⟨rowI_c i1 (o 2 (by unfold xP; omega)) (o 3 (by unfold xP; omega)) (o 4 (by unfold xP; omega)) (o 59 (by unfold xP; omega)) (o 60 (by unfold xP; omega)) (o 61 (by unfold xP; omega)), tapI_c i2 (by rw [o 5 (by unfold xP; omega)]) (o 6 (by unfold xP; omega)) (by rw [e58]) (o 63 (by unfold xP; omega)), ⟨xPre_x h i3.1, ?_⟩, actI_c i4 (o 38 (by unfold xP; omega)) (o 39 (by unfold xP; omega)) (o 40 (by unfold xP; omega)) (o 41 (by unfold xP; omega)) (by rw [e58]) (o 67 (by unfold xP; omega)) (xP_v h.1), ⟨imgI_c i5.1 (fun i hi => o _ (by unfold xP; omega)) (o 68 (by unfold xP; omega)) (o 69 (by unfold xP; omega)), imgI_c i5.2 (fun i hi => o _ (by unfold xP; omega)) (o 68 (by unfold xP; omega)) (o 69 (by unfold xP; omega))⟩, traI_c i6 (by rw [o 42 (by unfold xP; omega)]) (o 43 (by unfold xP; omega)) (by rw [e58]) (o 75 (by unfold xP; omega)), ?_⟩
  · rw [xP_v h.1, ← i3.2]
    exact vM_only (o 64 (by unfold xP; omega))
  · rw [e58, h.2.1 13 (by omega)]
    exact i7
theorem xPre_c {σ τ : HP} (h : xPre σ) (e0 : ∀ j, 9 ≤ j ∧ j ≤ 12 → τ 0 j = σ 0 j) (e : ∀ q, 7 ≤ q ∧ q ≤ 21 → τ q = σ q) : xPre τ := by
  obtain ⟨h1, h2, c1, c2, c3, c4⟩ := h
  have er : ∀ i, i ≤ 6 → τ (7 + i) = σ (7 + i) := fun i hi => e _ (by omega)
  have hv := vC_rows er
  refine ⟨by rw [hv]; exact h1, coOk_rows er h2, by rw [e0 9 (by omega)]; exact c1, by rw [e0 10 (by omega)]; exact c2, fun z => ?_, fun z => ?_⟩
  · rw [e0 9 (by omega)] at z
    have hB := c3 z
    unfold bestOk at hB ⊢
    rw [hv, e 14 (by omega), e 15 (by omega)]
    exact ⟨hB.1, hB.2.1, hB.2.2.1, hB.2.2.2.1, spNotes_eq (e 16 (by omega)) (e 17 (by omega)) hB.2.2.2.2⟩
  · rw [e0 10 (by omega)] at z
    have hB := c4 z
    unfold headOk at hB ⊢
    rw [hv, e0 11 (by omega), e0 12 (by omega)]
    exact hB
/-- the reference answered a question -/
theorem INV0_m {σ τ : HP} (h : mS σ τ) (hI : INV0 σ) : INV0 τ := by
  obtain ⟨i1, i2, i3, i4, i5, i6, i7⟩ := hI
  have o : ∀ q, ¬ scP q → τ q = σ q := h.1
  have e58 : ∀ j, j ≠ 23 → τ 58 j = σ 58 j := h.2
  have er : ∀ i, i ≤ 6 → τ (7 + i) = σ (7 + i) := fun i hi => o _ (by unfold scP; omega)
  refine ⟨rowI_c i1 (o 2 (by unfold scP; omega)) (o 3 (by unfold scP; omega)) (o 4 (by unfold scP; omega)) (o 59 (by unfold scP; omega)) (o 60 (by unfold scP; omega)) (o 61 (by unfold scP; omega)), tapI_c i2 (by rw [o 5 (by unfold scP; omega)]) (o 6 (by unfold scP; omega)) (e58 6 (by decide)) (o 63 (by unfold scP; omega)), ⟨xPre_c i3.1 (fun j _ => by rw [o 0 (by unfold scP; omega)]) (fun q hq => o q (by unfold scP; omega)), ?_⟩, actI_c i4 (o 38 (by unfold scP; omega)) (o 39 (by unfold scP; omega)) (o 40 (by unfold scP; omega)) (o 41 (by unfold scP; omega)) (e58 17 (by decide)) (o 67 (by unfold scP; omega)) (vC_rows er), ⟨imgI_c i5.1 (fun i hi => o _ (by unfold scP; omega)) (o 68 (by unfold scP; omega)) (o 69 (by unfold scP; omega)), imgI_c i5.2 (fun i hi => o _ (by unfold scP; omega)) (o 68 (by unfold scP; omega)) (o 69 (by unfold scP; omega))⟩, traI_c i6 (by rw [o 42 (by unfold scP; omega)]) (o 43 (by unfold scP; omega)) (e58 27 (by decide)) (o 75 (by unfold scP; omega)), ?_⟩
  · rw [vC_rows er, ← i3.2]
    exact vM_only (o 64 (by unfold scP; omega))
  · rw [e58 7 (by decide), o 0 (by unfold scP; omega)]
    exact i7
/-- only what rows, status and trace say may differ -/
theorem INV0_r {σ τ : HP} (hI : INV0 σ) (h : ∀ q, ¬ (q = 0 ∨ q = 2 ∨ q = 3 ∨ q = 4 ∨ q = 42 ∨ q = 43 ∨ q = 58 ∨ q = 59 ∨ q = 60 ∨ q = 61 ∨ q = 62 ∨ q = 75) → τ q = σ q) (h0 : ∀ j, j ≠ 14 → τ 0 j = σ 0 j) (h58 : ∀ j, j ≠ 4 → j ≠ 27 → τ 58 j = σ 58 j) (hr : rowI τ) (ht : traI τ) : INV0 τ := by
  obtain ⟨i1, i2, i3, i4, i5, i6, i7⟩ := hI
  have er : ∀ i, i ≤ 6 → τ (7 + i) = σ (7 + i) := fun i hi => h _ (by omega)
  refine ⟨hr, tapI_c i2 (by rw [h 5 (by omega)]) (h 6 (by omega)) (h58 6 (by decide) (by decide)) (h 63 (by omega)), ⟨xPre_c i3.1 (fun j hj => h0 j (by omega)) (fun q hq => h q (by omega)), ?_⟩, actI_c i4 (h 38 (by omega)) (h 39 (by omega)) (h 40 (by omega)) (h 41 (by omega)) (h58 17 (by decide) (by decide)) (h 67 (by omega)) (vC_rows er), ⟨imgI_c i5.1 (fun i hi => h _ (by omega)) (h 68 (by omega)) (h 69 (by omega)), imgI_c i5.2 (fun i hi => h _ (by omega)) (h 68 (by omega)) (h 69 (by omega))⟩, ht, ?_⟩
  · rw [vC_rows er, ← i3.2]
    exact vM_only (h 64 (by omega))
  · rw [h58 7 (by decide) (by decide), h0 13 (by decide)]
    exact i7
/-- the status, on one side -/
theorem INV0_s {σ : HP} {v : Int} (hI : INV0 σ) : INV0 (hset σ 0 14 v) := by
  refine INV0_r hI (fun q hq => hset_row (by omega)) (fun j hj => hset_s hj) (fun j _ _ => hset_o (by decide)) ?_ ?_
  · exact rowI_c hI.1 (hset_row (by decide)) (hset_row (by decide)) (hset_row (by decide)) (hset_row (by decide)) (hset_row (by decide)) (hset_row (by decide))
  · exact traI_c hI.2.2.2.2.2.1 (hset_o (by decide)) (hset_row (by decide)) (hset_o (by decide)) (hset_row (by decide))
theorem INV0_t {σ : HP} {v : Int} (hI : INV0 σ) : INV0 (hset σ 58 4 v) := by
  refine INV0_r hI (fun q hq => hset_row (by omega)) (fun j _ => hset_o (by decide)) (fun j hj _ => hset_s hj) ?_ ?_
  · exact rowI_c hI.1 (hset_row (by decide)) (hset_row (by decide)) (hset_row (by decide)) (hset_row (by decide)) (hset_row (by decide)) (hset_row (by decide))
  · exact traI_c hI.2.2.2.2.2.1 (hset_o (by decide)) (hset_row (by decide)) (hset_s (by decide)) (hset_row (by decide))
/-- both found the same -/
theorem INV_st {σ : HP} {v : Int} (hI : INV0 σ) : INV (hset (hset σ 0 14 v) 58 4 v) := ⟨INV0_t (INV0_s hI), by rw [hset_same, hset_o (by decide), hset_same]⟩
theorem rowI_ref {σ : HP} (h : rowI σ) : ∀ r, r < 8 → R32 (σ 59 r) ∧ (0 ≤ σ 60 r ∧ σ 60 r ≤ 40) := fun r hr => by
  obtain ⟨h1, h2, -⟩ := h.2.1 r hr
  have h3 := (h.1.1 r hr).2
  refine ⟨?_, h2⟩
  rw [h1]
  split <;> exact ⟨by omega, by omega⟩
theorem rowI_miss {σ : HP} (h : rowI σ) {r : Nat} (hr : r < 8) : σ 59 r = -1000000 ↔ σ 4 r = -1 := by
  obtain ⟨h1, -, -⟩ := h.2.1 r hr
  have h3 := (h.1.1 r hr).2
  rw [h1]
  split <;> omega
