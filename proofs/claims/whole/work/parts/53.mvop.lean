/-! ===== the reference: readsChord ===== -/
def adY (σ τ : HP) : Prop := only σ τ (fun q => q = 58 ∨ q = 65) ∧ ∀ j, j < 7 ∨ 12 < j → τ 58 j = σ 58 j
def S_X8_readsChord : MSpec := fun a σ Q => match a with
  | [.inr (.inl 58), .inl b, .inl f] => rtk σ ∧ R32 (σ 58 8) ∧ R32 (σ 58 11) ∧ R32 (σ 58 12) ∧ (b = 0 ∨ b = 1) ∧ (f = 0 ∨ f = 1) ∧ (if 0 ≤ σ 58 8 then Q none σ else ∃ p, ldP (σ 63) (rL σ) σ p ∧ okV (vM σ 65 0) ∧ vM σ 65 0 0 2 ≤ 4 * vM σ 65 0 0 1 ∧ (vM σ 65 0 0 1 = 0 → b = 1 ∧ f = 1) ∧
      (∀ τ (k : Int) (q : Nat), (1 ≤ k ∧ k ≤ 3) → q ≤ rL σ → runS (RN (σ 63) (rL σ)) (σ 63) (rL σ) p b f (vM σ 65 0) = fltR k q → adY σ τ → τ 58 8 = q → τ 58 7 = k → Q none τ) ∧
      (∀ τ (p' : Nat) (lk : Int) (D' : HP), p < p' → runS (RN (σ 63) (rL σ)) (σ 63) (rL σ) p b f (vM σ 65 0) = RN (σ 63) (rL σ) p' 6 0 0 lk D' → adY σ τ → τ 58 8 = σ 58 8 → τ 58 7 = σ 58 7 → ldP (σ 63) (rL σ) τ p' → vM τ 65 0 = D' → okV D' → D' 0 2 ≤ 4 * D' 0 1 → 1 ≤ D' 0 1 → Q none τ))
  | _ => False
theorem rc_X8_readsChord : ∀ a σ Q, S_X8_readsChord a σ Q → ∃ (p : Nat) (r : List AV), a = .inr (.inl p) :: r ∧ p < 76 ∧ (SH p).1 = 4 ∧ (SH p).2.1 = 7 := by
  intro a σ Q h
  unfold S_X8_readsChord at h
  split at h
  · exact ⟨58, _, rfl, by decide, rfl, rfl⟩
  · exact h.elim
theorem kdZ_T {B : Nat → Int} {L p : Nat} (h : ¬ kdZ (tkT B L p) = 0) : 97 ≤ tkT B L p ∧ tkT B L p ≤ 122 := by
  have := tkT_set (B := B) (L := L) (p := p)
  unfold kdZ at h
  (repeat' split at h) <;> omega
theorem adY_set {σ τ : HP} {k : Nat} {v : Int} (h : adY σ τ) : adY σ (hset τ 65 k v) := ⟨only_set h.1 (Or.inr rfl), fun j hj => by rw [hset_o (by decide), h.2 j hj]⟩
theorem adY_p {σ τ ρ : HP} (h : adY σ τ) (h' : adP τ ρ) : adY σ ρ := ⟨fun q hq => (h'.1 q (fun z => hq (Or.inl z))).trans (h.1 q hq), fun j hj => (h'.2 j (by omega)).trans (h.2 j hj)⟩
theorem adY_k {σ τ : HP} (h : adY σ τ) : τ 63 = σ 63 ∧ rL τ = rL σ ∧ τ 58 6 = σ 58 6 ∧ (rtk σ → rtk τ) := by
  have e1 : τ 63 = σ 63 := h.1 63 (by decide)
  have e2 : τ 58 6 = σ 58 6 := h.2 6 (by omega)
  refine ⟨e1, by unfold rL; rw [e2], e2, fun hr => ?_⟩
  unfold rtk at hr ⊢
  rw [e1, e2]
  exact hr
theorem adY_flt {σ τ : HP} {a k : Int} (h : adY σ τ) : adY σ (hset (hset τ 58 8 a) 58 7 k) := ⟨only_set (only_set h.1 (Or.inl rfl)) (Or.inl rfl), fun j hj => by rw [hset_s (by omega), hset_s (by omega), h.2 j hj]⟩
theorem ldP_set {B : Nat → Int} {L : Nat} {τ : HP} {p k : Nat} {v : Int} (h : ldP B L τ p) : ldP B L (hset τ 65 k v) p := by
  have e : hset τ 65 k v 58 = τ 58 := hset_row (by decide)
  unfold ldP at h ⊢
  rw [e]
  exact h
/-- the chord is written down -/
theorem vM_op {σ τ ρ : HP} {C N j : Nat} {kd b f : Int} {g : Nat → Int} (h1 : σ 65 1 = C) (h2 : σ 65 2 = N) (hC : C < 10) (hN : N + j ≤ 40)
    (o : ∀ c, c < 53 + N → τ 65 c = σ 65 c) (hg : ∀ i, i < j → τ 65 (53 + N + i) = g i)
    (hρ : ρ = hset (hset (hset (hset (hset (hset (hset τ 65 (5 * C + 3) kd) 65 (5 * C + 4) N) 65 (5 * C + 5) j) 65 (5 * C + 6) b) 65 (5 * C + 7) f) 65 1 ((C : Int) + 1)) 65 2 ((N : Int) + j)) : vM ρ 65 0 = opD (vM σ 65 0) kd b f g j := by
  obtain ⟨v0, v1, v2⟩ := vM_0 σ 65
  rw [h1] at v1
  rw [h2] at v2
  have r : ∀ c, ρ 65 c = if c = 2 then (N : Int) + j else if c = 1 then (C : Int) + 1 else if c = 5 * C + 7 then f else if c = 5 * C + 6 then b else if c = 5 * C + 5 then (j : Int) else if c = 5 * C + 4 then (N : Int) else if c = 5 * C + 3 then kd else τ 65 c := fun c => by
    rw [hρ]
    simp only [hset_at, true_and]
  have r1 : ρ 65 1 = (C : Int) + 1 := by rw [r, if_neg (by omega), if_pos rfl]
  have r2 : ρ 65 2 = (N : Int) + j := by rw [r, if_pos rfl]
  have r0 : ρ 65 0 = σ 65 0 := by
    rw [r, if_neg (by omega), if_neg (by omega), if_neg (by omega), if_neg (by omega), if_neg (by omega), if_neg (by omega), if_neg (by omega)]
    exact o 0 (by omega)
  funext k c
  rcases k with _ | _ | _ | _ | _ | _ | _ | k <;> simp only [opD, Nat.zero_add, Nat.reduceAdd, v1, v2]
  · by_cases h : c < 3
    · rcases (show c = 0 ∨ c = 1 ∨ c = 2 by omega) with rfl | rfl | rfl
      · simp [vM, r0]
      · simp [vM, r1]
      · simp [vM, r2]
    · rw [if_neg (by omega), if_neg (by omega)]
      simp [vM, h]
  · simp only [vM, Nat.zero_add, r1, h1]
    by_cases h : c = C
    · subst h
      rw [if_pos (by omega), if_pos rfl, r]
      repeat rw [if_neg (by omega)]
      rw [if_pos rfl]
    · by_cases h' : c < C
      · rw [if_pos (show (c : Int) < C + 1 by omega), if_neg (show ¬ (c : Int) = C by omega), if_pos (show (c : Int) < C by omega), r]
        repeat rw [if_neg (by omega)]
        exact o _ (by omega)
      · rw [if_neg (show ¬ (c : Int) < C + 1 by omega), if_neg (show ¬ (c : Int) = C by omega), if_neg (show ¬ (c : Int) < C by omega)]
  · simp only [vM, Nat.zero_add, r1, h1]
    by_cases h : c = C
    · subst h
      rw [if_pos (by omega), if_pos rfl, r]
      repeat rw [if_neg (by omega)]
      rw [if_pos rfl]
    · by_cases h' : c < C
      · rw [if_pos (show (c : Int) < C + 1 by omega), if_neg (show ¬ (c : Int) = C by omega), if_pos (show (c : Int) < C by omega), r]
        repeat rw [if_neg (by omega)]
        exact o _ (by omega)
      · rw [if_neg (show ¬ (c : Int) < C + 1 by omega), if_neg (show ¬ (c : Int) = C by omega), if_neg (show ¬ (c : Int) < C by omega)]
  · simp only [vM, Nat.zero_add, r1, h1]
    by_cases h : c = C
    · subst h
      rw [if_pos (by omega), if_pos rfl, r]
      repeat rw [if_neg (by omega)]
      rw [if_pos rfl]
    · by_cases h' : c < C
      · rw [if_pos (show (c : Int) < C + 1 by omega), if_neg (show ¬ (c : Int) = C by omega), if_pos (show (c : Int) < C by omega), r]
        repeat rw [if_neg (by omega)]
        exact o _ (by omega)
      · rw [if_neg (show ¬ (c : Int) < C + 1 by omega), if_neg (show ¬ (c : Int) = C by omega), if_neg (show ¬ (c : Int) < C by omega)]
  · simp only [vM, Nat.zero_add, r1, h1]
    by_cases h : c = C
    · subst h
      rw [if_pos (by omega), if_pos rfl, r]
      repeat rw [if_neg (by omega)]
      rw [if_pos rfl]
    · by_cases h' : c < C
      · rw [if_pos (show (c : Int) < C + 1 by omega), if_neg (show ¬ (c : Int) = C by omega), if_pos (show (c : Int) < C by omega), r]
        repeat rw [if_neg (by omega)]
        exact o _ (by omega)
      · rw [if_neg (show ¬ (c : Int) < C + 1 by omega), if_neg (show ¬ (c : Int) = C by omega), if_neg (show ¬ (c : Int) < C by omega)]
  · simp only [vM, Nat.zero_add, r1, h1]
    by_cases h : c = C
    · subst h
      rw [if_pos (by omega), if_pos rfl, r]
      repeat rw [if_neg (by omega)]
      rw [if_pos rfl]
    · by_cases h' : c < C
      · rw [if_pos (show (c : Int) < C + 1 by omega), if_neg (show ¬ (c : Int) = C by omega), if_pos (show (c : Int) < C by omega), r]
        repeat rw [if_neg (by omega)]
        exact o _ (by omega)
      · rw [if_neg (show ¬ (c : Int) < C + 1 by omega), if_neg (show ¬ (c : Int) = C by omega), if_neg (show ¬ (c : Int) < C by omega)]
  · simp only [vM, Nat.zero_add, r2, h2]
    have hr : ρ 65 (53 + c) = τ 65 (53 + c) := by
      rw [r]
      repeat rw [if_neg (by omega)]
    rw [hr, Int.toNat_natCast]
    by_cases h : c < N
    · rw [if_pos (by omega), if_neg (by omega), if_pos (by omega)]
      exact o _ (by omega)
    · by_cases h' : c < N + j
      · rw [if_pos (by omega), if_pos (by omega)]
        have := hg (c - N) (by omega)
        rw [show 53 + N + (c - N) = 53 + c by omega] at this
        exact this
      · rw [if_neg (by omega), if_neg (by omega), if_neg (by omega)]
  · rfl
