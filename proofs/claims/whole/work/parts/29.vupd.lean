/-! ===== a piece's table when a cell changes ===== -/
theorem hset_at (V : HP) (p k q j : Nat) (v : Int) : hset V p k v q j = if q = p ∧ j = k then v else V q j := rfl
theorem vM_g (σ : HP) (w : Nat) (v : Int) : vM (hset σ w 0 v) w 0 = hset (vM σ w 0) 0 0 v := by
  funext k c
  rcases k with _ | _ | _ | _ | _ | _ | _ | k <;> simp only [vM, hset, Nat.zero_add, Nat.reduceAdd] <;> (repeat' split) <;> first | rfl | omega | (exfalso; omega) | (simp_all; done) | (simp_all <;> omega)
theorem vM_k {σ : HP} {w n : Nat} {v : Int} (h2 : (n : Int) < σ w 2) (h1 : σ w 1 ≤ 10) : vM (hset σ w (53 + n) v) w 0 = hset (vM σ w 0) 6 n v := by
  funext k c
  rcases k with _ | _ | _ | _ | _ | _ | _ | k <;> simp only [vM, hset, Nat.zero_add, Nat.reduceAdd] <;> (repeat' split) <;> first | rfl | omega | (exfalso; omega) | (simp_all; done) | (simp_all <;> omega)
theorem vM_d {σ : HP} {w n : Nat} {v : Int} (h2 : (n : Int) < σ w 1) (h1 : σ w 1 ≤ 10) : vM (hset σ w (5 * n + 3) v) w 0 = hset (vM σ w 0) 1 n v := by
  funext k c
  rcases k with _ | _ | _ | _ | _ | _ | _ | k <;> simp only [vM, hset, Nat.zero_add, Nat.reduceAdd] <;> (repeat' split) <;> first | rfl | omega | (exfalso; omega) | (simp_all; done) | (simp_all <;> omega)
theorem vM_cpy {σ τ : HP} {w o w' o' : Nat} (h : ∀ j, j < 93 → τ w' (o' + j) = σ w (o + j)) (h1 : σ w (o + 1) ≤ 10) (h2 : σ w (o + 2) ≤ 40) : vM τ w' o' = vM σ w o := by
  funext k c
  unfold vM
  split
  · split
    · exact h c (by omega)
    · rfl
  all_goals first | rfl | skip
  all_goals (first | rw [h 1 (by omega)] | rw [h 2 (by omega)]) <;> (split <;> first | rfl | exact h _ (by omega))
theorem vC_g (σ : HP) (p : Nat) (v : Int) : vC (hset σ p 0 v) p = hset (vC σ p) 0 0 v := by
  funext k c
  rcases k with _ | _ | _ | _ | _ | _ | _ | k <;> simp only [vC, hset, Nat.zero_add, Nat.reduceAdd] <;> (repeat' split) <;> first | rfl | omega | (exfalso; omega) | (simp_all; done) | (simp_all <;> omega)
theorem vC_k {σ : HP} {p n : Nat} {v : Int} (h2 : (n : Int) < σ p 2) : vC (hset σ (p + 5) n v) p = hset (vC σ p) 6 n v := by
  funext k c
  rcases k with _ | _ | _ | _ | _ | _ | _ | k <;> simp only [vC, hset, Nat.zero_add, Nat.reduceAdd] <;> (repeat' split) <;> first | rfl | omega | (exfalso; omega) | (simp_all; done) | (simp_all <;> omega)
theorem vC_d {σ : HP} {p n : Nat} {v : Int} (h2 : (n : Int) < σ p 1) : vC (hset σ (p + 1) n v) p = hset (vC σ p) 1 n v := by
  funext k c
  rcases k with _ | _ | _ | _ | _ | _ | _ | k <;> simp only [vC, hset, Nat.zero_add, Nat.reduceAdd] <;> (repeat' split) <;> first | rfl | omega | (exfalso; omega) | (simp_all; done) | (simp_all <;> omega)
theorem okV_g {V : HP} {v : Int} (hV : okV V) (h : 0 ≤ v ∧ v ≤ 14) : okV (hset V 0 0 v) := by
  obtain ⟨o1, o2, o3, o4, oc, on⟩ := hV
  refine ⟨?_, ?_, ?_, ?_, ?_, ?_⟩ <;> simp [hset_at]
  · exact h
  · exact o2
  · exact o3
  · exact o4
  · exact oc
  · exact on
theorem okV_k {V : HP} {n : Nat} {v : Int} (hV : okV V) (h : 0 ≤ v ∧ v < 12) : okV (hset V 6 n v) := by
  obtain ⟨o1, o2, o3, o4, oc, on⟩ := hV
  refine ⟨?_, ?_, ?_, ?_, ?_, ?_⟩ <;> simp [hset_at]
  · exact o1
  · exact o2
  · exact o3
  · exact o4
  · exact oc
  · intro k hk
    have := on k hk
    split <;> omega
theorem okV_d {V : HP} {n : Nat} {v : Int} (hV : okV V) (h : 1 ≤ v ∧ v ≤ 5) : okV (hset V 1 n v) := by
  obtain ⟨o1, o2, o3, o4, oc, on⟩ := hV
  refine ⟨?_, ?_, ?_, ?_, ?_, ?_⟩ <;> simp [hset_at]
  · exact o1
  · exact o2
  · exact o3
  · exact o4
  · intro c hc
    obtain ⟨a1, a2⟩ := oc c hc
    refine ⟨?_, a2⟩
    split
    · exact h
    · exact a1
  · exact on
/-- all shifted by fifths -/
def shV (V : HP) (t : Int) : HP := fun k c => if k = 0 ∧ c = 0 then V 0 0 + t else if k = 6 ∧ (c : Int) < V 0 2 then (V 6 c + 7 * t) % 12 else V k c
theorem okV_sh {V : HP} {t : Int} (hV : okV V) (h : 0 ≤ V 0 0 + t ∧ V 0 0 + t ≤ 14) : okV (shV V t) := by
  obtain ⟨o1, o2, o3, o4, oc, on⟩ := hV
  refine ⟨?_, ?_, ?_, ?_, ?_, ?_⟩ <;> simp [shV]
  · exact h
  · exact o2
  · exact o3
  · exact o4
  · exact oc
  · intro k hk
    rw [if_pos hk]
    omega
/-- every note is of a chord -/
theorem note_of {V : HP} (hV : okV V) {n : Nat} (h : (n : Int) < V 0 2) : ∃ c j : Nat, c < ncV V ∧ (j : Int) < V 5 c ∧ n = (V 4 c).toNat + j := by
  obtain ⟨o1, o2, o3, o4, oc, on⟩ := hV
  have hn : 0 < V 0 1 := by
    by_cases e : V 0 1 = 0
    · have := o4 e; omega
    · omega
  have hh : ∀ d c : Nat, c + d + 1 = ncV V → V 4 c ≤ n → ∃ c j : Nat, c < ncV V ∧ (j : Int) < V 5 c ∧ n = (V 4 c).toNat + j := by
    intro d
    induction d with
    | zero =>
      intro c hc h4
      unfold ncV at hc ⊢
      have a := oc c (by omega)
      have b := a.2.2.2.2.2.2.2.2 (by omega)
      exact ⟨c, n - (V 4 c).toNat, by omega, by omega, by omega⟩
    | succ d ih =>
      intro c hc h4
      have hc' := hc
      unfold ncV at hc
      have a := oc c (by omega)
      have b := a.2.2.2.2.2.2.2.1 (by omega)
      by_cases e : (n : Int) < V 4 c + V 5 c
      · exact ⟨c, n - (V 4 c).toNat, by unfold ncV; omega, by omega, by omega⟩
      · exact ih (c + 1) (by omega) (by omega)
  have h0 := (oc 0 (by omega)).2.2.2.2.2.2.1 rfl
  exact hh (ncV V - 1) 0 (by unfold ncV; omega) (by omega)
theorem ncV_u {V : HP} {k c : Nat} {v : Int} (h : k ≠ 0 ∨ c = 0) : ncV (hset V k c v) = ncV V := by
  unfold ncV
  rw [hset_at, if_neg (by omega)]
