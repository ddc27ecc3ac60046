/-! ===== one call on both sides: rows, the tape ===== -/
theorem law_row {σ : HP} {r ln n : Int} (hr : R32 r) (hl : R32 ln) (hn : R32 n) (hI : INV σ) : TWO S_X7_row S_X8_row [.inl r, .inl ln, .inl n] σ := by
  intro Q1 Q2 h1 h2
  have hR := hI.1.1
  refine ⟨hr, hl, hn, ?_⟩
  by_cases h : ¬ (0 ≤ r ∧ r < 8) ∨ ln < 0 ∨ 2 < ln ∨ 40 < n
  · rw [if_pos h]
    refine h1 _ _ ⟨hr, hl, hn, ?_⟩
    rw [if_pos (by omega)]
    exact h2 _ _ hI
  · rw [if_neg h]
    by_cases h' : n < 0
    · rw [if_pos h']
      refine h1 _ _ ⟨hr, hl, hn, ?_⟩
      rw [if_neg (by omega), if_pos h']
      exact h2 _ _ (INV_st hI.1)
    · rw [if_neg h']
      refine h1 _ _ ⟨hr, hl, hn, ?_⟩
      rw [if_neg (by omega), if_neg h']
      obtain ⟨R, hRe⟩ : ∃ R : Nat, r = R := ⟨r.toNat, by omega⟩
      obtain ⟨N, hNe⟩ : ∃ N : Nat, n = N := ⟨n.toNat, by omega⟩
      subst hRe
      subst hNe
      rw [show ((R : Int) * 40).toNat = 40 * R by omega, show (40 * (R : Int)).toNat = 40 * R by omega, Int.toNat_natCast, Int.toNat_natCast]
      generalize hτ : hset (hfill (hset (hset (hset (hfill (hset (hset σ 3 R ln) 4 R (N : Int)) 2 (40 * R) N) 0 14 0) 59 R ln) 60 R (N : Int)) 61 (40 * R) 40) 58 4 0 = τ
      have q2 : ∀ j, τ 2 j = if 40 * R ≤ j ∧ j < 40 * R + N then 0 else σ 2 j := fun j => by rw [← hτ]; simp [hset, hfill]
      have q3 : ∀ c, τ 3 c = if c = R then ln else σ 3 c := fun j => by rw [← hτ]; simp [hset, hfill]
      have q4 : ∀ c, τ 4 c = if c = R then (N : Int) else σ 4 c := fun j => by rw [← hτ]; simp [hset, hfill]
      have q59 : ∀ c, τ 59 c = if c = R then ln else σ 59 c := fun j => by rw [← hτ]; simp [hset, hfill]
      have q60 : ∀ c, τ 60 c = if c = R then (N : Int) else σ 60 c := fun j => by rw [← hτ]; simp [hset, hfill]
      have q61 : ∀ j, τ 61 j = if 40 * R ≤ j ∧ j < 40 * R + 40 then 0 else σ 61 j := fun j => by rw [← hτ]; simp [hset, hfill]
      refine h2 _ _ ⟨INV0_r hI.1 (fun q hq => ?_) (fun j hj => ?_) (fun j h4 h27 => ?_) ⟨⟨fun c hc => ?_, fun j => ?_⟩, fun c hc => ?_, fun j => ?_⟩ ?_, ?_⟩
      · rw [← hτ, hset_row (by omega), hfill_row (by omega), hset_row (by omega), hset_row (by omega), hset_row (by omega), hfill_row (by omega), hset_row (by omega), hset_row (by omega)]
      · rw [← hτ, hset_o (by decide), hfill_row (by decide), hset_o (by decide), hset_o (by decide), hset_s hj, hfill_row (by decide), hset_o (by decide), hset_o (by decide)]
      · rw [← hτ, hset_s h4, hfill_row (by decide), hset_o (by decide), hset_o (by decide), hset_o (by decide), hfill_row (by decide), hset_o (by decide), hset_o (by decide)]
      · have := hR.1.1 c hc
        rw [q3, q4]
        by_cases hc' : c = R
        · rw [if_pos hc', if_pos hc']
          omega
        · rw [if_neg hc', if_neg hc']
          exact this
      · rw [q2]
        split
        · exact ⟨by decide, by decide⟩
        · exact hR.1.2 j
      · have hb := (hR.1.1 c hc).1
        obtain ⟨g1, g2, g3⟩ := hR.2.1 c hc
        rw [q3, q4, q59, q60]
        by_cases hc' : c = R
        · subst hc'
          simp only [if_true]
          rw [if_neg (by omega)]
          refine ⟨rfl, by omega, fun _ => ⟨trivial, fun j hj => ?_⟩⟩
          rw [q61, q2, if_pos (by omega), if_pos (by omega)]
        · rw [if_neg hc', if_neg hc', if_neg hc', if_neg hc']
          refine ⟨g1, g2, fun z => ⟨(g3 z).1, fun j hj => ?_⟩⟩
          rw [q61, q2, if_neg (by omega), if_neg (by omega)]
          exact (g3 z).2 j hj
      · rw [q61]
        split
        · exact ⟨by decide, by decide⟩
        · exact hR.2.2 j
      · refine traI_c hI.1.2.2.2.2.2.1 ?_ ?_ ?_ ?_ <;> rw [← hτ] <;> rfl
      · rw [← hτ]; rfl
theorem zi_R (ln v : Int) (h : R32 v) : R32 (laneV ln v) := by
  unfold laneV
  split
  · exact R32_of _
  · split
    · exact R32_of _
    · exact h
theorem law_set {σ : HP} {r i v : Int} (hr : R32 r) (hi : R32 i) (hv : R32 v) (hI : INV σ) : TWO S_X7_set S_X8_set [.inl r, .inl i, .inl v] σ := by
  intro Q1 Q2 h1 h2
  have hR := hI.1.1
  have pre : ∀ (τ : HP) (P : Prop), τ 59 = σ 59 → τ 60 = σ 60 → P → R32 r ∧ R32 i ∧ R32 v ∧ (∀ r, r < 8 → R32 (τ 59 r) ∧ (0 ≤ τ 60 r ∧ τ 60 r ≤ 40)) ∧ P := fun τ P g3 g4 hP => ⟨hr, hi, hv, by rw [g3, g4]; exact rowI_ref hR, hP⟩
  refine ⟨hr, hi, hv, hR.1, ?_⟩
  by_cases hr8 : ¬ (0 ≤ r ∧ r < 8)
  · rw [if_pos hr8]
    refine h1 _ _ (pre σ _ rfl rfl ?_)
    rw [if_pos (by omega)]
    exact h2 _ _ hI
  · rw [if_neg hr8]
    have hm := rowI_miss hR (r := r.toNat) (by omega)
    obtain ⟨hl, -, hit⟩ := hR.2.1 r.toNat (by omega)
    have hb := hR.1.1 r.toNat (by omega)
    by_cases h4 : σ 4 r.toNat = -1
    · rw [if_pos h4]
      refine h1 _ _ (pre _ _ (hset_row (by decide)) (hset_row (by decide)) ?_)
      rw [if_neg (by omega), hset_o (by decide), if_pos (hm.mpr h4)]
      exact h2 _ _ (INV_st hI.1)
    · rw [if_neg h4]
      obtain ⟨hs, hit⟩ := hit h4
      rw [if_neg h4] at hl
      by_cases h5 : ¬ (0 ≤ i ∧ 1 ≤ σ 4 r.toNat - i)
      · rw [if_pos h5]
        refine h1 _ _ (pre _ _ (hset_row (by decide)) (hset_row (by decide)) ?_)
        rw [if_neg (by omega), hset_o (by decide), hset_o (by decide), if_neg (fun z => h4 (hm.mp z)), if_pos (by omega)]
        exact h2 _ _ (INV_st hI.1)
      · rw [if_neg h5]
        refine h1 _ _ (pre _ _ (by rw [hset_row (by decide), hset_row (by decide)]) (by rw [hset_row (by decide), hset_row (by decide)]) ?_)
        rw [if_neg (by omega), hset_o (by decide), hset_o (by decide), hset_o (by decide), hset_o (by decide), if_neg (fun z => h4 (hm.mp z)), if_neg (by omega), hl]
        have hw := zi_R (σ 3 r.toNat) v hv
        generalize laneV (σ 3 r.toNat) v = w at *
        obtain ⟨K, hK, hK'⟩ : ∃ K : Nat, (r * 40 + i).toNat = K ∧ (40 * r + i).toNat = K := ⟨(r * 40 + i).toNat, rfl, by omega⟩
        rw [hK, hK']
        have hKr : K = 40 * r.toNat + i.toNat := by omega
        generalize hτ : hset (hset (hset (hset σ 2 K w) 0 14 0) 61 K w) 58 4 0 = τ
        have q2 : ∀ j, τ 2 j = if j = K then w else σ 2 j := fun j => by rw [← hτ]; simp [hset]
        have q61 : ∀ j, τ 61 j = if j = K then w else σ 61 j := fun j => by rw [← hτ]; simp [hset]
        have q3 : τ 3 = σ 3 := by rw [← hτ]; rfl
        have q4 : τ 4 = σ 4 := by rw [← hτ]; rfl
        have q59 : τ 59 = σ 59 := by rw [← hτ]; rfl
        have q60 : τ 60 = σ 60 := by rw [← hτ]; rfl
        refine h2 _ _ ⟨INV0_r hI.1 (fun q hq => ?_) (fun j hj => ?_) (fun j h4 h27 => ?_) ⟨⟨fun c hc => ?_, fun j => ?_⟩, fun c hc => ?_, fun j => ?_⟩ ?_, ?_⟩
        · rw [← hτ, hset_row (by omega), hset_row (by omega), hset_row (by omega), hset_row (by omega)]
        · rw [← hτ, hset_o (by decide), hset_o (by decide), hset_s hj, hset_o (by decide)]
        · rw [← hτ, hset_s h4, hset_o (by decide), hset_o (by decide), hset_o (by decide)]
        · rw [q3, q4]
          exact hR.1.1 c hc
        · rw [q2]
          split
          · exact hw
          · exact hR.1.2 j
        · obtain ⟨g1, g2, g3⟩ := hR.2.1 c hc
          rw [q3, q4, q59, q60]
          refine ⟨g1, g2, fun z => ⟨(g3 z).1, fun j hj => ?_⟩⟩
          rw [q61, q2, (g3 z).2 j hj]
        · rw [q61]
          split
          · exact hw
          · exact hR.2.2 j
        · refine traI_c hI.1.2.2.2.2.2.1 ?_ ?_ ?_ ?_ <;> rw [← hτ] <;> rfl
        · rw [← hτ]; rfl
theorem law_drop {σ : HP} {r : Int} (hr : R32 r) (hI : INV σ) : TWO S_X7_drop S_X8_drop [.inl r] σ := by
  intro Q1 Q2 h1 h2
  have hR := hI.1.1
  have pre : ∀ (τ : HP) (P : Prop), τ 59 = σ 59 → τ 60 = σ 60 → P → R32 r ∧ (∀ r, r < 8 → R32 (τ 59 r) ∧ (0 ≤ τ 60 r ∧ τ 60 r ≤ 40)) ∧ P := fun τ P g3 g4 hP => ⟨hr, by rw [g3, g4]; exact rowI_ref hR, hP⟩
  refine ⟨hr, hR.1, ?_⟩
  by_cases hr8 : ¬ (0 ≤ r ∧ r < 8)
  · rw [if_pos hr8]
    refine h1 _ _ (pre σ _ rfl rfl ?_)
    rw [if_pos (by omega)]
    exact h2 _ _ hI
  · rw [if_neg hr8]
    have hm := rowI_miss hR (r := r.toNat) (by omega)
    obtain ⟨hl, -, hit⟩ := hR.2.1 r.toNat (by omega)
    by_cases h4 : σ 4 r.toNat = -1
    · rw [if_pos h4]
      refine h1 _ _ (pre _ _ (hset_row (by decide)) (hset_row (by decide)) ?_)
      rw [if_neg (by omega), hset_o (by decide), if_pos (hm.mpr h4)]
      exact h2 _ _ (INV_st hI.1)
    · rw [if_neg h4]
      obtain ⟨hs, hit⟩ := hit h4
      refine h1 _ _ (pre _ _ (by rw [hset_row (by decide), hset_row (by decide)]) (by rw [hset_row (by decide), hset_row (by decide)]) ?_)
      rw [if_neg (by omega), hset_o (by decide), hset_o (by decide), hset_o (by decide), hset_o (by decide), if_neg (fun z => h4 (hm.mp z)), hs]
      obtain ⟨R, hRe⟩ : ∃ R : Nat, r.toNat = R := ⟨_, rfl⟩
      rw [hRe]
      generalize hτ : hset (hset (hset (hset σ 4 R (-1)) 0 14 0) 59 R (-1000000)) 58 4 0 = τ
      have q4 : ∀ c, τ 4 c = if c = R then -1 else σ 4 c := fun j => by rw [← hτ]; simp [hset]
      have q59 : ∀ c, τ 59 c = if c = R then -1000000 else σ 59 c := fun j => by rw [← hτ]; simp [hset]
      have q2 : τ 2 = σ 2 := by rw [← hτ]; rfl
      have q3 : τ 3 = σ 3 := by rw [← hτ]; rfl
      have q60 : τ 60 = σ 60 := by rw [← hτ]; rfl
      have q61 : τ 61 = σ 61 := by rw [← hτ]; rfl
      refine h2 _ _ ⟨INV0_r hI.1 (fun q hq => ?_) (fun j hj => ?_) (fun j h4 h27 => ?_) ⟨⟨fun c hc => ?_, fun j => ?_⟩, fun c hc => ?_, fun j => ?_⟩ ?_, ?_⟩
      · rw [← hτ, hset_row (by omega), hset_row (by omega), hset_row (by omega), hset_row (by omega)]
      · rw [← hτ, hset_o (by decide), hset_o (by decide), hset_s hj, hset_o (by decide)]
      · rw [← hτ, hset_s h4, hset_o (by decide), hset_o (by decide), hset_o (by decide)]
      · rw [q3, q4]
        have := hR.1.1 c hc
        split
        · exact ⟨by omega, this.2⟩
        · exact this
      · rw [q2]
        exact hR.1.2 j
      · obtain ⟨g1, g2, g3⟩ := hR.2.1 c hc
        rw [q2, q3, q4, q59, q60, q61]
        by_cases hc' : c = R
        · rw [if_pos hc', if_pos hc', if_pos rfl]
          exact ⟨rfl, g2, fun z => absurd rfl z⟩
        · rw [if_neg hc', if_neg hc']
          exact ⟨g1, g2, g3⟩
      · rw [q61]
        exact hR.2.2 j
      · refine traI_c hI.1.2.2.2.2.2.1 ?_ ?_ ?_ ?_ <;> rw [← hτ] <;> rfl
      · rw [← hτ]; rfl
theorem law_copy {σ : HP} {r i s j n : Int} (hr : R32 r) (hi : R32 i) (hs : R32 s) (hj : R32 j) (hn : R32 n) (hI : INV σ) : TWO S_X7_copy S_X8_copy [.inl r, .inl i, .inl s, .inl j, .inl n] σ := by
  intro Q1 Q2 h1 h2
  have hR := hI.1.1
  have pre : ∀ (τ : HP) (P : Prop), τ 59 = σ 59 → τ 60 = σ 60 → P → R32 r ∧ R32 i ∧ R32 s ∧ R32 j ∧ R32 n ∧ (∀ r, r < 8 → R32 (τ 59 r) ∧ (0 ≤ τ 60 r ∧ τ 60 r ≤ 40)) ∧ P := fun τ P g3 g4 hP => ⟨hr, hi, hs, hj, hn, by rw [g3, g4]; exact rowI_ref hR, hP⟩
  refine ⟨hr, hi, hs, hj, hn, hR.1, ?_⟩
  by_cases h8 : ¬ (0 ≤ r ∧ r < 8) ∨ ¬ (0 ≤ s ∧ s < 8)
  · rw [if_pos h8]
    refine h1 _ _ (pre σ _ rfl rfl ?_)
    rw [if_pos (by omega)]
    exact h2 _ _ hI
  · rw [if_neg h8]
    have hm := rowI_miss hR (r := r.toNat) (by omega)
    have hm' := rowI_miss hR (r := s.toNat) (by omega)
    obtain ⟨hl, -, hit⟩ := hR.2.1 r.toNat (by omega)
    obtain ⟨hl', -, hit'⟩ := hR.2.1 s.toNat (by omega)
    have hb := (hR.1.1 r.toNat (by omega)).1
    have hb' := (hR.1.1 s.toNat (by omega)).1
    by_cases h4 : σ 4 r.toNat = -1 ∨ σ 4 s.toNat = -1
    · rw [if_pos h4]
      refine h1 _ _ (pre _ _ (hset_row (by decide)) (hset_row (by decide)) ?_)
      rw [if_neg (by omega), hset_o (by decide), hset_o (by decide), if_pos (h4.imp hm.mpr hm'.mpr)]
      exact h2 _ _ (INV_st hI.1)
    · rw [if_neg h4]
      obtain ⟨hs1, hit⟩ := hit (fun z => h4 (Or.inl z))
      obtain ⟨hs2, -⟩ := hit' (fun z => h4 (Or.inr z))
      rw [if_neg (fun z => h4 (Or.inl z))] at hl
      rw [if_neg (fun z => h4 (Or.inr z))] at hl'
      have h4' : ¬ (σ 59 r.toNat = -1000000 ∨ σ 59 s.toNat = -1000000) := fun z => h4 (z.imp hm.mp hm'.mp)
      by_cases h3 : ¬ σ 3 r.toNat = σ 3 s.toNat
      · rw [if_pos h3]
        refine h1 _ _ (pre _ _ (hset_row (by decide)) (hset_row (by decide)) ?_)
        rw [if_neg (by omega), hset_o (by decide), hset_o (by decide), if_neg h4', if_pos (by rw [hl, hl']; exact h3)]
        exact h2 _ _ (INV_st hI.1)
      · rw [if_neg h3]
        by_cases h5 : ¬ (0 ≤ i ∧ 0 ≤ n ∧ n ≤ σ 4 r.toNat - i) ∨ ¬ (0 ≤ j ∧ 0 ≤ n ∧ n ≤ σ 4 s.toNat - j)
        · rw [if_pos h5]
          refine h1 _ _ (pre _ _ (hset_row (by decide)) (hset_row (by decide)) ?_)
          rw [if_neg (by omega), hset_o (by decide), hset_o (by decide), hset_o (by decide), hset_o (by decide), if_neg h4', if_neg (by rw [hl, hl']; exact h3), if_pos (by rw [hs1, hs2]; exact h5)]
          exact h2 _ _ (INV_st hI.1)
        · rw [if_neg h5]
          refine h1 _ _ (pre _ _ (by rw [hset_row (by decide), hcpy_f (by decide)]) (by rw [hset_row (by decide), hcpy_f (by decide)]) ?_)
          rw [if_neg (by omega), hset_o (by decide), hset_o (by decide), hset_o (by decide), hset_o (by decide), hcpy_f (q := 59) (by decide), hcpy_f (q := 60) (by decide), if_neg h4', if_neg (by rw [hl, hl']; exact h3), if_neg (by rw [hs1, hs2]; exact h5)]
          obtain ⟨A, hA⟩ : ∃ A : Nat, r.toNat = A := ⟨_, rfl⟩
          obtain ⟨B, hB⟩ : ∃ B : Nat, s.toNat = B := ⟨_, rfl⟩
          rw [hA] at hit hs1 hl hb
          rw [hB] at hs2 hl' hb'
          rw [hA, hB] at h5
          generalize hτ : hset (hcpy (hcpy (hset (hcpy σ 2 (r * 40 + i) 2 (s * 40 + j) n) 0 14 0) 61 (40 * r + i) 62 0 n) 62 0 61 (40 * s + j) n) 58 4 0 = τ
          have q2 : ∀ x, τ 2 x = if 40 * B + j.toNat ≤ x ∧ x < 40 * B + j.toNat + n.toNat then σ 2 (40 * A + (i.toNat + (x - (40 * B + j.toNat)))) else σ 2 x := fun x => by
            rw [← hτ, hset_o (by decide), hcpy_f (by decide), hcpy_f (by decide), hset_o (by decide)]
            unfold hcpy
            rw [show (s * 40 + j).toNat = 40 * B + j.toNat by omega, show (r * 40 + i).toNat = 40 * A + i.toNat by omega]
            by_cases hx : 40 * B + j.toNat ≤ x ∧ x < 40 * B + j.toNat + n.toNat
            · rw [if_pos ⟨rfl, hx⟩, if_pos hx, Nat.add_assoc]
            · rw [if_neg (fun z => hx z.2), if_neg hx]
          have q61 : ∀ x, τ 61 x = if 40 * B + j.toNat ≤ x ∧ x < 40 * B + j.toNat + n.toNat then σ 61 (40 * A + (i.toNat + (x - (40 * B + j.toNat)))) else σ 61 x := fun x => by
            rw [← hτ, hset_o (by decide)]
            unfold hcpy
            rw [show (40 * s + j).toNat = 40 * B + j.toNat by omega, show (40 * r + i).toNat = 40 * A + i.toNat by omega]
            by_cases hx : 40 * B + j.toNat ≤ x ∧ x < 40 * B + j.toNat + n.toNat
            · rw [if_pos ⟨rfl, hx⟩, if_pos hx, if_pos ⟨rfl, by omega, by show (0 : Int).toNat + _ < _; simp; omega⟩]
              rw [hset_o (by decide), if_neg (by simp)]
              congr 1
              simp
              omega
            · rw [if_neg (fun z => hx z.2), if_neg hx, if_neg (by simp), hset_o (by decide), if_neg (by simp)]
          have q3 : τ 3 = σ 3 := by rw [← hτ, hset_row (by decide), hcpy_f (by decide), hcpy_f (by decide), hset_row (by decide), hcpy_f (by decide)]
          have q4 : τ 4 = σ 4 := by rw [← hτ, hset_row (by decide), hcpy_f (by decide), hcpy_f (by decide), hset_row (by decide), hcpy_f (by decide)]
          have q59 : τ 59 = σ 59 := by rw [← hτ, hset_row (by decide), hcpy_f (by decide), hcpy_f (by decide), hset_row (by decide), hcpy_f (by decide)]
          have q60 : τ 60 = σ 60 := by rw [← hτ, hset_row (by decide), hcpy_f (by decide), hcpy_f (by decide), hset_row (by decide), hcpy_f (by decide)]
          refine h2 _ _ ⟨INV0_r hI.1 (fun q hq => ?_) (fun j hj => ?_) (fun j h4 h27 => ?_) ⟨⟨fun c hc => ?_, fun x => ?_⟩, fun c hc => ?_, fun x => ?_⟩ ?_, ?_⟩
          · rw [← hτ, hset_row (by omega), hcpy_f (by omega), hcpy_f (by omega), hset_row (by omega), hcpy_f (by omega)]
          · rw [← hτ, hset_o (by decide), hcpy_f (by decide), hcpy_f (by decide), hset_s hj, hcpy_f (by decide)]
          · rw [← hτ, hset_s h4, hcpy_f (by decide), hcpy_f (by decide), hset_o (by decide), hcpy_f (by decide)]
          · rw [q3, q4]
            exact hR.1.1 c hc
          · rw [q2]
            split <;> exact hR.1.2 _
          · obtain ⟨g1, g2, g3⟩ := hR.2.1 c hc
            rw [q3, q4, q59, q60]
            refine ⟨g1, g2, fun z => ⟨(g3 z).1, fun x hx => ?_⟩⟩
            rw [q61, q2]
            by_cases hy : 40 * B + j.toNat ≤ 40 * c + x ∧ 40 * c + x < 40 * B + j.toNat + n.toNat
            · rw [if_pos hy, if_pos hy]
              exact hit _ (by omega)
            · rw [if_neg hy, if_neg hy]
              exact (g3 z).2 x hx
          · rw [q61]
            split <;> exact hR.2.2 _
          · refine traI_c hI.1.2.2.2.2.2.1 ?_ ?_ ?_ ?_
            · rw [← hτ, hset_o (by decide), hcpy_f (by decide), hcpy_f (by decide), hset_o (by decide), hcpy_f (by decide)]
            · rw [← hτ, hset_row (by decide), hcpy_f (by decide), hcpy_f (by decide), hset_row (by decide), hcpy_f (by decide)]
            · rw [← hτ, hset_s (by decide), hcpy_f (by decide), hcpy_f (by decide), hset_o (by decide), hcpy_f (by decide)]
            · rw [← hτ, hset_row (by decide), hcpy_f (by decide), hcpy_f (by decide), hset_row (by decide), hcpy_f (by decide)]
          · rw [← hτ, hset_same, hset_o (by decide), hcpy_f (by decide), hcpy_f (by decide), hset_same]
theorem law_feed {σ : HP} {v : Int} (hv : R32 v) (hI : INV σ) : TWO S_X7_feed S_X8_feed [.inl v] σ := by
  intro Q1 Q2 h1 h2
  obtain ⟨⟨i1, ⟨⟨t1, t2⟩, t3, t4⟩, i3, i4, i5, i6, i7⟩, hst⟩ := id hI
  refine ⟨hv, t1, ?_⟩
  by_cases h : ¬ (0 ≤ v ∧ v ≤ 255)
  · rw [if_pos h]
    refine h1 _ _ ⟨hv, by omega, ?_⟩
    rw [if_pos h]
    exact h2 _ _ hI
  · rw [if_neg h]
    by_cases h' : σ 5 1 = 130
    · rw [if_pos h']
      refine h1 _ _ ⟨hv, by omega, ?_⟩
      rw [if_neg h, t3, if_pos h']
      exact h2 _ _ hI
    · rw [if_neg h']
      have z6 : hset (hset σ 6 (σ 5 1).toNat v) 5 1 (σ 5 1 + 1) 58 6 = σ 5 1 := by rw [hset_o (by decide), hset_o (by decide), t3]
      refine h1 _ _ ⟨hv, by omega, ?_⟩
      rw [if_neg h, z6, if_neg h']
      generalize hτ : hset (hset (hset (hset σ 6 (σ 5 1).toNat v) 5 1 (σ 5 1 + 1)) 63 (σ 5 1).toNat v) 58 6 (σ 5 1 + 1) = τ
      have o : ∀ q, q ≠ 5 → q ≠ 6 → q ≠ 58 → q ≠ 63 → τ q = σ q := fun q a b c d => by rw [← hτ, hset_row c, hset_row d, hset_row a, hset_row b]
      have e58 : ∀ j, j ≠ 6 → τ 58 j = σ 58 j := fun j hj => by rw [← hτ, hset_s hj, hset_o (by decide), hset_o (by decide), hset_o (by decide)]
      have er : ∀ i, i ≤ 6 → τ (7 + i) = σ (7 + i) := fun i hi => o _ (by omega) (by omega) (by omega) (by omega)
      have q6 : ∀ j, τ 6 j = if j = (σ 5 1).toNat then v else σ 6 j := fun j => by rw [← hτ]; simp [hset]
      have q63 : ∀ j, τ 63 j = if j = (σ 5 1).toNat then v else σ 63 j := fun j => by rw [← hτ]; simp [hset]
      have q5 : τ 5 1 = σ 5 1 + 1 := by rw [← hτ]; rfl
      have q58 : τ 58 6 = σ 5 1 + 1 := by rw [← hτ]; rfl
      refine h2 _ _ ⟨⟨rowI_c i1 (o 2 (by decide) (by decide) (by decide) (by decide)) (o 3 (by decide) (by decide) (by decide) (by decide)) (o 4 (by decide) (by decide) (by decide) (by decide)) (o 59 (by decide) (by decide) (by decide) (by decide)) (o 60 (by decide) (by decide) (by decide) (by decide)) (o 61 (by decide) (by decide) (by decide) (by decide)), ⟨⟨by rw [q5]; omega, fun j hj => ?_⟩, by rw [q58, q5], ?_⟩, ⟨xPre_c i3.1 (fun j _ => by rw [o 0 (by decide) (by decide) (by decide) (by decide)]) (fun q hq => o q (by omega) (by omega) (by omega) (by omega)), ?_⟩, actI_c i4 (o 38 (by decide) (by decide) (by decide) (by decide)) (o 39 (by decide) (by decide) (by decide) (by decide)) (o 40 (by decide) (by decide) (by decide) (by decide)) (o 41 (by decide) (by decide) (by decide) (by decide)) (e58 17 (by decide)) (o 67 (by decide) (by decide) (by decide) (by decide)) (vC_rows er), ⟨imgI_c i5.1 (fun i hi => o _ (by omega) (by omega) (by omega) (by omega)) (o 68 (by decide) (by decide) (by decide) (by decide)) (o 69 (by decide) (by decide) (by decide) (by decide)), imgI_c i5.2 (fun i hi => o _ (by omega) (by omega) (by omega) (by omega)) (o 68 (by decide) (by decide) (by decide) (by decide)) (o 69 (by decide) (by decide) (by decide) (by decide))⟩, traI_c i6 (by rw [o 42 (by decide) (by decide) (by decide) (by decide)]) (o 43 (by decide) (by decide) (by decide) (by decide)) (e58 27 (by decide)) (o 75 (by decide) (by decide) (by decide) (by decide)), ?_⟩, ?_⟩
      · rw [q6]
        split
        · omega
        · exact t2 j hj
      · funext j
        rw [q63, q6, t4]
      · rw [vC_rows er, ← i3.2]
        exact vM_only (o 64 (by decide) (by decide) (by decide) (by decide))
      · rw [e58 7 (by decide), o 0 (by decide) (by decide) (by decide) (by decide)]
        exact i7
      · rw [e58 4 (by decide), o 0 (by decide) (by decide) (by decide) (by decide)]
        exact hst
