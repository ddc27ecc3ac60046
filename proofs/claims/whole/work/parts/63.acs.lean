/-! ===== one call on both sides: acts, images, pieces ===== -/
theorem hset_back {V : HP} {p k : Nat} {v b : Int} (h : V p k = b) : hset (hset V p k v) p k b = V := by
  rw [hset2, ← h, hset_id]
theorem shV_back {V : HP} {t : Int} (hV : okV V) : shV (shV V t) (-t) = V := by
  obtain ⟨o1, o2, o3, o4, oc, on⟩ := hV
  funext k c
  have e2 : shV V t 0 2 = V 0 2 := by simp [shV]
  by_cases h0 : k = 0 ∧ c = 0
  · obtain ⟨rfl, rfl⟩ := h0
    simp [shV]
    omega
  · by_cases h6 : k = 6 ∧ (c : Int) < V 0 2
    · have e6 : shV V t 6 c = (V 6 c + 7 * t) % 12 := by
        unfold shV
        rw [if_neg (by omega), if_pos ⟨rfl, h6.2⟩]
      have hb := on c h6.2
      obtain ⟨rfl, h6⟩ := h6
      show (if 6 = 0 ∧ c = 0 then _ else if 6 = 6 ∧ (c : Int) < shV V t 0 2 then (shV V t 6 c + 7 * (-t)) % 12 else shV V t 6 c) = _
      rw [if_neg (by omega), if_pos ⟨rfl, by rw [e2]; exact h6⟩, e6]
      omega
    · have e : shV V t k c = V k c := by
        unfold shV
        rw [if_neg h0, if_neg h6]
      show (if k = 0 ∧ c = 0 then _ else if k = 6 ∧ (c : Int) < shV V t 0 2 then _ else shV V t k c) = _
      rw [if_neg h0, if_neg (by rw [e2]; exact h6), e]
/-- a snapshot is of a piece that is one -/
theorem vM_snap {σ τ : HP} {o o' w w' : Nat} (hV : okV (vM σ w o)) (h : ∀ j, j < 93 → τ w' (o' + j) = σ w (o + j)) : vM τ w' o' = vM σ w o := by
  have o2 := hV.2.1.2
  have o3 := hV.2.2.1.2
  have e1 : vM σ w o 0 1 = σ w (o + 1) := by simp [vM]
  have e2 : vM σ w o 0 2 = σ w (o + 2) := by simp [vM]
  exact vM_cpy h (by omega) (by omega)
/-- an act on both sides -/
theorem act_push {σ ρ : HP} {s w b : Int} {S : Nat} (hA : actI σ) (hV0 : okV (vC σ 7)) (hS : S ≤ 15) (n38 : ρ 38 0 = S + 1) (n58 : ρ 58 17 = S + 1)
    (hk : (σ 38 0 = 16 ∧ S = 15 ∧ (∀ i, i < 15 → ρ 39 i = σ 39 (i + 1) ∧ ρ 40 i = σ 40 (i + 1) ∧ ρ 41 i = σ 41 (i + 1)) ∧ ∀ i j, i < 15 → j < 93 → ρ 67 (93 * i + j) = σ 67 (93 * (i + 1) + j)) ∨ (σ 38 0 = S ∧ (∀ i, i < S → ρ 39 i = σ 39 i ∧ ρ 40 i = σ 40 i ∧ ρ 41 i = σ 41 i) ∧ ∀ i j, i < S → j < 93 → ρ 67 (93 * i + j) = σ 67 (93 * i + j)))
    (e1 : ρ 39 S = s) (e2 : ρ 40 S = w) (e3 : ρ 41 S = b) (hM : vM σ 64 0 = vC σ 7) (e67 : ∀ j, j < 93 → ρ 67 (93 * S + j) = σ 64 j) (hU : unR s w b (vC ρ 7) (vC σ 7)) : actI ρ := by
  obtain ⟨a1, a2, a3⟩ := hA
  have top : vM ρ 67 (93 * S) = vC σ 7 := by
    rw [← hM]
    exact vM_snap (by rw [hM]; exact hV0) (fun j hj => by rw [e67 j hj, Nat.zero_add])
  refine ⟨by rw [n58, n38], by rw [n38]; omega, fun i hi => ?_⟩
  rw [n38] at hi
  by_cases hiS : i = S
  · subst hiS
    have : nxV ρ i = vC ρ 7 := by
      unfold nxV
      rw [if_pos n38.symm]
    rw [this, top, e1, e2, e3]
    exact hU
  · have hn : nxV ρ i = vM ρ 67 (93 * (i + 1)) := by
      unfold nxV
      rw [if_neg (by rw [n38]; omega)]
    rcases hk with ⟨k1, k2, k3, k4⟩ | ⟨k1, k3, k4⟩
    · have hu := a3 (i + 1) (by omega)
      obtain ⟨g1, g2, g3⟩ := k3 i (by omega)
      have hm : vM ρ 67 (93 * i) = vM σ 67 (93 * (i + 1)) := vM_snap hu.1 (fun j hj => k4 i j (by omega) hj)
      have hx : nxV ρ i = nxV σ (i + 1) := by
        rw [hn]
        unfold nxV
        by_cases hi' : i + 1 = S
        · rw [if_pos (by omega), hi', top]
        · rw [if_neg (by omega)]
          exact vM_snap (a3 (i + 1 + 1) (by omega)).1 (fun j hj => k4 (i + 1) j (by omega) hj)
      rw [g1, g2, g3, hx, hm]
      exact hu
    · have hu := a3 i (by omega)
      obtain ⟨g1, g2, g3⟩ := k3 i (by omega)
      have hm : vM ρ 67 (93 * i) = vM σ 67 (93 * i) := vM_snap hu.1 (fun j hj => k4 i j (by omega) hj)
      have hx : nxV ρ i = nxV σ i := by
        rw [hn]
        unfold nxV
        by_cases hi' : i + 1 = S
        · rw [if_pos (by omega), hi', top]
        · rw [if_neg (by omega)]
          exact vM_snap (a3 (i + 1) (by omega)).1 (fun j hj => k4 (i + 1) j (by omega) hj)
      rw [g1, g2, g3, hx, hm]
      exact hu
/-- the piece is another, on both sides -/
theorem INV_new {σ ρ : HP} {V : HP} (hI : INV σ) (o : ∀ q, ¬ (q = 0 ∨ (7 ≤ q ∧ q ≤ 13) ∨ (38 ≤ q ∧ q ≤ 41) ∨ q = 58 ∨ q = 64 ∨ q = 67) → ρ q = σ q) (h0 : ∀ j, j ≠ 9 → j ≠ 10 → ρ 0 j = σ 0 j) (h9 : ρ 0 9 = 1) (h10 : ρ 0 10 = 1) (h58 : ∀ j, j ≠ 17 → ρ 58 j = σ 58 j) (hv : vC ρ 7 = V) (hm : vM ρ 64 0 = V) (hV : okV V) (hco : coOk ρ 7) (hA : actI ρ) : INV ρ := by
  obtain ⟨⟨i1, i2, i3, i4, i5, i6, i7⟩, hst⟩ := hI
  refine ⟨⟨rowI_c i1 (o 2 (by omega)) (o 3 (by omega)) (o 4 (by omega)) (o 59 (by omega)) (o 60 (by omega)) (o 61 (by omega)), tapI_c i2 (by rw [o 5 (by omega)]) (o 6 (by omega)) (h58 6 (by decide)) (o 63 (by omega)), ⟨⟨by rw [hv]; exact hV, hco, Or.inr h9, Or.inr h10, fun z => by omega, fun z => by omega⟩, by rw [hv, hm]⟩, hA, ⟨imgI_c i5.1 (fun i hi => o _ (by omega)) (o 68 (by omega)) (o 69 (by omega)), imgI_c i5.2 (fun i hi => o _ (by omega)) (o 68 (by omega)) (o 69 (by omega))⟩, traI_c i6 (by rw [o 42 (by omega)]) (o 43 (by omega)) (h58 27 (by decide)) (o 75 (by omega)), ?_⟩, ?_⟩
  · rw [h58 7 (by decide), h0 13 (by decide) (by decide)]
    exact i7
  · rw [h58 4 (by decide), h0 14 (by decide) (by decide)]
    exact hst
theorem chgd_o {τ : HP} {q : Nat} (h : q ≠ 0) : chgd τ q = τ q := by
  unfold chgd
  rw [hset_row h, hset_row h]
theorem chgd_s {τ : HP} {j : Nat} (h9 : j ≠ 9) (h10 : j ≠ 10) : chgd τ 0 j = τ 0 j := by
  unfold chgd
  rw [hset_s h10, hset_s h9]
theorem chgd_9 {τ : HP} : chgd τ 0 9 = 1 := rfl
theorem chgd_10 {τ : HP} : chgd τ 0 10 = 1 := rfl
/-- an act, both sides through: κ is the class's new piece, χ kept, ρ noted, π the reference's new piece -/
theorem act_two {σ κ χ ρ π V : HP} {s w b : Int} (hI : INV σ) (ok : only σ κ (fun q => 7 ≤ q ∧ q ≤ 13)) (hk : kpOk κ χ s w b) (hn : ntOk (chgd χ) ρ) (op : only ρ π (fun q => q = 64)) (hv : vC κ 7 = V) (hco : coOk κ 7) (hm : vM π 64 0 = V) (hV : okV V) (hU : unR s w b V (vC σ 7)) : INV π := by
  obtain ⟨S, hS, kS, k1, k2, k3, k4⟩ := hk.2
  obtain ⟨n1, n2, T, hT, nT, n3, n4⟩ := hn
  have k0 := hk.1
  obtain ⟨a1, a2, a3⟩ := id hI.1.2.2.2.1
  have e58 : chgd χ 58 = σ 58 := by rw [chgd_o (by decide), k0 58 (by omega), ok 58 (by omega)]
  have e64 : chgd χ 64 = σ 64 := by rw [chgd_o (by decide), k0 64 (by omega), ok 64 (by omega)]
  have e67 : chgd χ 67 = σ 67 := by rw [chgd_o (by decide), k0 67 (by omega), ok 67 (by omega)]
  have s38 : κ 38 = σ 38 := ok 38 (by omega)
  have s39 : κ 39 = σ 39 := ok 39 (by omega)
  have s40 : κ 40 = σ 40 := ok 40 (by omega)
  have s41 : κ 41 = σ 41 := ok 41 (by omega)
  rw [e58, e67] at n3
  rw [e64] at n4
  rw [s38, s39, s40, s41] at k1
  have hST : T = S := by
    rcases k1 with ⟨z1, z2, -⟩ | ⟨z1, -⟩ <;> rcases n3 with ⟨y1, y2, -⟩ | ⟨y1, -⟩ <;> omega
  subst hST
  have pq : ∀ q, q ≠ 64 → π q = ρ q := fun q hq => op q hq
  have rq : ∀ q, q ≠ 58 → q ≠ 67 → ρ q = chgd χ q := fun q h1 h2 => n1 q (by omega)
  have p0 : π 0 = chgd χ 0 := by rw [pq 0 (by decide), rq 0 (by decide) (by decide)]
  have px : ∀ q, q ≠ 0 → q ≠ 58 → q ≠ 64 → q ≠ 67 → π q = χ q := fun q h1 h2 h3 h4 => by rw [pq q h3, rq q h2 h4, chgd_o h1]
  have er : ∀ i, i ≤ 6 → π (7 + i) = κ (7 + i) := fun i hi => by rw [px _ (by omega) (by omega) (by omega) (by omega), k0 _ (by omega)]
  have hvp : vC π 7 = V := by rw [vC_rows er, hv]
  have p67 : π 67 = ρ 67 := pq 67 (by decide)
  refine INV_new hI (fun q hq => ?_) (fun j j9 j10 => ?_) ?_ ?_ (fun j hj => ?_) hvp hm hV (coOk_rows er hco) ?_
  · rw [px q (by omega) (by omega) (by omega) (by omega), k0 q (by omega), ok q (by omega)]
  · rw [p0, chgd_s j9 j10, k0 0 (by omega), ok 0 (by omega)]
  · rw [p0]; rfl
  · rw [p0]; rfl
  · rw [pq 58 (by decide), n2 j hj, e58]
  · refine act_push (S := T) hI.1.2.2.2.1 hI.1.2.2.1.1.1 hT ?_ ?_ ?_ ?_ ?_ ?_ hI.1.2.2.1.2 (fun j hj => ?_) (by rw [hvp]; exact hU)
    · rw [px 38 (by decide) (by decide) (by decide) (by decide), kS]
    · rw [pq 58 (by decide), nT]
    · rw [px 39 (by decide) (by decide) (by decide) (by decide), px 40 (by decide) (by decide) (by decide) (by decide), px 41 (by decide) (by decide) (by decide) (by decide), p67]
      rcases k1 with ⟨z1, z2, z3⟩ | ⟨z1, z3⟩
      · rcases n3 with ⟨y1, y2, y3⟩ | ⟨y1, y3⟩
        · exact Or.inl ⟨z1, z2, z3, y3⟩
        · omega
      · rcases n3 with ⟨y1, y2, y3⟩ | ⟨y1, y3⟩
        · omega
        · exact Or.inr ⟨z1, z3, y3⟩
    · rw [px 39 (by decide) (by decide) (by decide) (by decide), k2]
    · rw [px 40 (by decide) (by decide) (by decide) (by decide), k3]
    · rw [px 41 (by decide) (by decide) (by decide) (by decide), k4]
    · rw [p67, n4 j hj]
theorem law_key {σ : HP} {k v : Int} (hk : R32 k) (hv : R32 v) (hI : INV σ) : TWO S_X7_key S_X8_key [.inl k, .inl v] σ := by
  intro Q1 Q2 h1 h2
  obtain ⟨hV, hM, e0, e1, e2, f0, f1, f2⟩ := pq hI.1
  obtain ⟨a1, a2, a3⟩ := id hI.1.2.2.2.1
  have o3 := hV.2.2.1
  refine ⟨hk, hv, hV, a2, ?_⟩
  by_cases h : ¬ (0 ≤ k ∧ k < σ 7 2) ∨ ¬ (0 ≤ v ∧ v < 12)
  · rw [if_pos h]
    refine h1 _ _ ⟨hk, hv, ⟨by rw [hM]; exact hV, by rw [a1]; exact a2⟩, ?_⟩
    rw [f2, ← e2, if_pos h]
    exact h2 _ _ hI
  · rw [if_neg h]
    have hx : σ 64 (53 + k).toNat = σ 12 k.toNat := by
      have g1 := vC_n (σ := σ) (p := 7) (n := k.toNat) (by omega)
      have g2 := vM_n (σ := σ) (w := 64) (n := k.toNat) (by omega)
      rw [hM, g1] at g2
      rw [show (53 + k).toNat = 53 + k.toNat by omega]
      exact g2.symm
    by_cases h' : σ 12 k.toNat = v
    · rw [if_pos h']
      refine h1 _ _ ⟨hk, hv, ⟨by rw [hM]; exact hV, by rw [a1]; exact a2⟩, ?_⟩
      rw [f2, ← e2, if_neg h, hx, if_pos h']
      exact h2 _ _ hI
    · rw [if_neg h']
      intro τ hτ
      have c58 : chgd τ 58 = σ 58 := by rw [chgd_o (by decide), hτ.1 58 (by omega), hset_row (by decide)]
      have c64 : chgd τ 64 = σ 64 := by rw [chgd_o (by decide), hτ.1 64 (by omega), hset_row (by decide)]
      have cM : vM (chgd τ) 64 0 = vC σ 7 := (vM_only c64).trans hM
      refine h1 _ _ ⟨hk, hv, ⟨by rw [cM]; exact hV, by rw [c58, a1]; exact a2⟩, ?_⟩
      rw [c64, f2, ← e2, if_neg h, hx, if_neg h']
      intro ρ hn
      refine h2 _ _ (act_two (V := hset (vC σ 7) 6 k.toNat v) hI (only_set (fun _ _ => rfl) (by omega)) hτ hn (only_set (fun _ _ => rfl) rfl) (vC_k (p := 7) (by omega)) ?_ ?_ (okV_k hV (by omega)) ⟨hV, Or.inl ⟨rfl, ?_, ?_⟩⟩)
      · exact coOk_v (by rw [hset_o (by decide)]) (by rw [hset_row (by decide)]) (fun c => by rw [vC_k (p := 7) (by omega)]; exact ⟨rfl, rfl⟩) hI.1.2.2.1.1.2.1
      · have r64 : ρ 64 = σ 64 := by rw [hn.1 64 (by decide), c64]
        have hMr : vM ρ 64 0 = vC σ 7 := (vM_only r64).trans hM
        rw [show (53 + k).toNat = 53 + k.toNat by omega, vM_k (by rw [r64]; omega) (by rw [r64, f1]; exact hV.2.1.2), hMr]
      · show 0 ≤ k ∧ k < vC σ 7 0 2
        omega
      · refine (hset_back ?_).symm
        exact vC_n (p := 7) (by omega)
theorem law_become {σ : HP} {k v : Int} (hk : R32 k) (hv : R32 v) (hI : INV σ) : TWO S_X7_become S_X8_become [.inl k, .inl v] σ := by
  intro Q1 Q2 h1 h2
  obtain ⟨hV, hM, e0, e1, e2, f0, f1, f2⟩ := pq hI.1
  obtain ⟨a1, a2, a3⟩ := id hI.1.2.2.2.1
  have o2 := hV.2.1
  refine ⟨hk, hv, hV, a2, ?_⟩
  by_cases h : ¬ (0 ≤ k ∧ k < σ 7 1) ∨ ¬ (1 ≤ v ∧ v ≤ 5)
  · rw [if_pos h]
    refine h1 _ _ ⟨hk, hv, ⟨by rw [hM]; exact hV, by rw [a1]; exact a2⟩, ?_⟩
    rw [f1, ← e1, if_pos h]
    exact h2 _ _ hI
  · rw [if_neg h]
    have hx : σ 64 (3 + 5 * k).toNat = σ 8 k.toNat := by
      obtain ⟨g1, -⟩ := vC_c (σ := σ) (p := 7) (c := k.toNat) (by omega)
      obtain ⟨g2, -⟩ := vM_c (σ := σ) (w := 64) (c := k.toNat) (by omega)
      rw [hM, g1] at g2
      rw [show (3 + 5 * k).toNat = 5 * k.toNat + 3 by omega]
      exact g2.symm
    by_cases h' : σ 8 k.toNat = v
    · rw [if_pos h']
      refine h1 _ _ ⟨hk, hv, ⟨by rw [hM]; exact hV, by rw [a1]; exact a2⟩, ?_⟩
      rw [f1, ← e1, if_neg h, hx, if_pos h']
      exact h2 _ _ hI
    · rw [if_neg h']
      intro τ hτ
      have c58 : chgd τ 58 = σ 58 := by rw [chgd_o (by decide), hτ.1 58 (by omega), hset_row (by decide)]
      have c64 : chgd τ 64 = σ 64 := by rw [chgd_o (by decide), hτ.1 64 (by omega), hset_row (by decide)]
      have cM : vM (chgd τ) 64 0 = vC σ 7 := (vM_only c64).trans hM
      refine h1 _ _ ⟨hk, hv, ⟨by rw [cM]; exact hV, by rw [c58, a1]; exact a2⟩, ?_⟩
      rw [c64, f1, ← e1, if_neg h, hx, if_neg h']
      intro ρ hn
      refine h2 _ _ (act_two (V := hset (vC σ 7) 1 k.toNat v) hI (only_set (fun _ _ => rfl) (by omega)) hτ hn (only_set (fun _ _ => rfl) rfl) (vC_d (p := 7) (by omega)) ?_ ?_ (okV_d hV (by omega)) ⟨hV, Or.inr (Or.inl ⟨rfl, ?_, ?_⟩)⟩)
      · exact coOk_v (by rw [hset_o (by decide)]) (by rw [hset_row (by decide)]) (fun c => by rw [vC_d (p := 7) (by omega)]; exact ⟨rfl, rfl⟩) hI.1.2.2.1.1.2.1
      · have r64 : ρ 64 = σ 64 := by rw [hn.1 64 (by decide), c64]
        have hMr : vM ρ 64 0 = vC σ 7 := (vM_only r64).trans hM
        rw [show (3 + 5 * k).toNat = 5 * k.toNat + 3 by omega, vM_d (by rw [r64]; omega) (by rw [r64, f1]; exact hV.2.1.2), hMr]
      · show 0 ≤ k ∧ k < vC σ 7 0 1
        omega
      · refine (hset_back ?_).symm
        exact (vC_c (p := 7) (by omega)).1
theorem law_sign {σ : HP} {v : Int} (hv : R32 v) (hI : INV σ) : TWO S_X7_sign S_X8_sign [.inl v] σ := by
  intro Q1 Q2 h1 h2
  obtain ⟨hV, hM, e0, e1, e2, f0, f1, f2⟩ := pq hI.1
  obtain ⟨a1, a2, a3⟩ := id hI.1.2.2.2.1
  refine ⟨hv, hV, a2, ?_⟩
  by_cases h : σ 7 1 = 0
  · rw [if_pos h]
    refine h1 _ _ ⟨hv, ⟨by rw [hM]; exact hV, by rw [a1]; exact a2⟩, ?_⟩
    rw [f1, ← e1, if_pos h]
    exact h2 _ _ hI
  · rw [if_neg h]
    by_cases hb : ¬ (0 ≤ v ∧ v < 15)
    · rw [if_pos hb]
      refine h1 _ _ ⟨hv, ⟨by rw [hM]; exact hV, by rw [a1]; exact a2⟩, ?_⟩
      rw [f1, ← e1, if_neg h, if_pos hb]
      exact h2 _ _ hI
    · rw [if_neg hb]
      by_cases h' : σ 7 0 = v
      · rw [if_pos h']
        refine h1 _ _ ⟨hv, ⟨by rw [hM]; exact hV, by rw [a1]; exact a2⟩, ?_⟩
        rw [f1, f0, ← e1, ← e0, if_neg h, if_neg hb, if_pos h']
        exact h2 _ _ hI
      · rw [if_neg h']
        intro τ hτ
        have c58 : chgd τ 58 = σ 58 := by rw [chgd_o (by decide), hτ.1 58 (by omega), hset_row (by decide)]
        have c64 : chgd τ 64 = σ 64 := by rw [chgd_o (by decide), hτ.1 64 (by omega), hset_row (by decide)]
        have cM : vM (chgd τ) 64 0 = vC σ 7 := (vM_only c64).trans hM
        refine h1 _ _ ⟨hv, ⟨by rw [cM]; exact hV, by rw [c58, a1]; exact a2⟩, ?_⟩
        rw [c64, f1, f0, ← e1, ← e0, if_neg h, if_neg hb, if_neg h']
        intro ρ hn
        refine h2 _ _ (act_two (V := hset (vC σ 7) 0 0 v) hI (only_set (fun _ _ => rfl) (by omega)) hτ hn (only_set (fun _ _ => rfl) rfl) (vC_g σ 7 v) (coOk_g hI.1.2.2.1.1.2.1) ?_ (okV_g hV (by omega)) ⟨hV, Or.inr (Or.inr (Or.inl ⟨rfl, ?_⟩))⟩)
        · have r64 : ρ 64 = σ 64 := by rw [hn.1 64 (by decide), c64]
          have hMr : vM ρ 64 0 = vC σ 7 := (vM_only r64).trans hM
          rw [vM_g, hMr]
        · exact (hset_back e0.symm).symm
theorem shV_4 (V : HP) (t : Int) (c : Nat) : shV V t 4 c = V 4 c ∧ shV V t 5 c = V 5 c := by
  unfold shV
  simp
theorem law_shift {σ : HP} {t : Int} (ht : R32 t) (hI : INV σ) : TWO S_X7_shift S_X8_shift [.inl t] σ := by
  intro Q1 Q2 h1 h2
  obtain ⟨hV, hM, e0, e1, e2, f0, f1, f2⟩ := pq hI.1
  obtain ⟨a1, a2, a3⟩ := id hI.1.2.2.2.1
  refine ⟨ht, hV, a2, ?_⟩
  by_cases h : σ 7 1 = 0
  · rw [if_pos h]
    refine h1 _ _ ⟨ht, ⟨by rw [hM]; exact hV, by rw [a1]; exact a2⟩, ?_⟩
    rw [f1, ← e1, if_pos h]
    exact h2 _ _ hI
  · rw [if_neg h]
    by_cases hb : ¬ (-6 ≤ t ∧ t ≤ 6)
    · rw [if_pos hb]
      refine h1 _ _ ⟨ht, ⟨by rw [hM]; exact hV, by rw [a1]; exact a2⟩, ?_⟩
      rw [f1, ← e1, if_neg h, if_pos hb]
      exact h2 _ _ hI
    · rw [if_neg hb]
      by_cases h' : t = 0 ∨ ¬ (0 ≤ σ 7 0 + t ∧ σ 7 0 + t < 15)
      · rw [if_pos h']
        refine h1 _ _ ⟨ht, ⟨by rw [hM]; exact hV, by rw [a1]; exact a2⟩, ?_⟩
        rw [f1, f0, ← e1, ← e0, if_neg h, if_neg hb, if_pos h']
        exact h2 _ _ hI
      · rw [if_neg h']
        intro κ τ hκ hvκ hτ
        have c58 : chgd τ 58 = σ 58 := by rw [chgd_o (by decide), hτ.1 58 (by omega), hκ 58 (by omega)]
        have c64 : chgd τ 64 = σ 64 := by rw [chgd_o (by decide), hτ.1 64 (by omega), hκ 64 (by omega)]
        have cM : vM (chgd τ) 64 0 = vC σ 7 := (vM_only c64).trans hM
        refine h1 _ _ ⟨ht, ⟨by rw [cM]; exact hV, by rw [c58, a1]; exact a2⟩, ?_⟩
        rw [c64, f1, f0, ← e1, ← e0, if_neg h, if_neg hb, if_neg h', cM]
        intro ρ hn π hπ hvπ
        have k71 : κ 7 1 = σ 7 1 := by
          rw [← (vC_0 κ 7).2.1, hvκ, ← (vC_0 σ 7).2.1]
          simp [shV]
        refine h2 _ _ (act_two (V := shV (vC σ 7) t) hI (fun q hq => hκ q (by omega)) hτ hn hπ hvκ ?_ hvπ (okV_sh hV (by omega)) ⟨hV, Or.inr (Or.inr (Or.inr ⟨rfl, by omega, ?_⟩))⟩)
        · exact coOk_v k71 (by rw [hκ (7 + 6) (by omega)]) (fun c => by rw [hvκ]; exact shV_4 _ _ _) hI.1.2.2.1.1.2.1
        · exact (shV_back hV).symm
