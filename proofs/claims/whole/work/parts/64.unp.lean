/-! ===== one call on both sides: undo, images, pieces ===== -/
theorem undo_fin {σ κ : HP} {s : Nat} {Q2 : Int → Option AV → HP → Prop} (hI : INV σ) (h2 : ∀ v τ, INV τ → Q2 v (some (.inl v)) τ) (hs : σ 38 0 = s + 1) (hs' : s ≤ 15) (ok : only σ κ (fun q => (7 ≤ q ∧ q ≤ 13) ∨ q = 38)) (k38 : κ 38 0 = s) (hv : vC κ 7 = vM σ 67 (93 * s)) (hco : coOk κ 7) : S_X8_undo [.inr (.inl 58)] (chgd κ) (Q2 (κ 38 0)) := by
  obtain ⟨a1, a2, a3⟩ := id hI.1.2.2.2.1
  have hu := a3 s (by omega)
  have c58 : chgd κ 58 = σ 58 := by rw [chgd_o (by decide), ok 58 (by omega)]
  have c17 : chgd κ 58 17 = s + 1 := by rw [c58, a1, hs]
  refine ⟨by rw [c17]; omega, ?_⟩
  rw [c17, if_neg (by omega), k38, show ((s : Int) + 1 - 1) = s by omega, show (93 * (s : Int)) = ((93 * s : Nat) : Int) by omega]
  generalize hπ : hcpy (hset (chgd κ) 58 17 (s : Int)) 67 ((93 * s : Nat) : Int) 64 0 93 = π
  have px : ∀ q, q ≠ 0 → q ≠ 58 → q ≠ 64 → π q = κ q := fun q h0 h1 h2 => by rw [← hπ, hcpy_f h2, hset_row h1, chgd_o h0]
  have p0 : π 0 = chgd κ 0 := by rw [← hπ, hcpy_f (by decide), hset_row (by decide)]
  have p58 : ∀ j, j ≠ 17 → π 58 j = σ 58 j := fun j hj => by rw [← hπ, hcpy_f (by decide), hset_s hj, c58]
  have p17 : π 58 17 = s := by rw [← hπ, hcpy_f (by decide), hset_same]
  have p67 : π 67 = σ 67 := by rw [px 67 (by decide) (by decide) (by decide), ok 67 (by omega)]
  have er : ∀ i, i ≤ 6 → π (7 + i) = κ (7 + i) := fun i hi => px _ (by omega) (by omega) (by omega)
  have hvp : vC π 7 = vM σ 67 (93 * s) := by rw [vC_rows er, hv]
  have hm : vM π 64 0 = vM σ 67 (93 * s) := by
    refine vM_snap hu.1 (fun j hj => ?_)
    have := hcpy_in (σ := hset (chgd κ) 58 17 (s : Int)) (f := 67) (t := 64) (a := ((93 * s : Nat) : Int)) (b := 0) (n := 93) j (by omega)
    rw [hπ, Int.toNat_natCast] at this
    rw [show 0 + j = (0 : Int).toNat + j from rfl, this, hset_o (by decide), chgd_o (by decide), ok 67 (by omega)]
  have p38 : π 38 0 = s := by rw [px 38 (by decide) (by decide) (by decide), k38]
  refine h2 _ _ (INV_new hI (fun q hq => ?_) (fun j j9 j10 => ?_) ?_ ?_ p58 hvp hm hu.1 (coOk_rows er hco) ⟨by rw [p17, p38], by rw [p38]; omega, fun i hi => ?_⟩)
  · rw [px q (by omega) (by omega) (by omega), ok q (by omega)]
  · rw [p0, chgd_s j9 j10, ok 0 (by omega)]
  · rw [p0]; rfl
  · rw [p0]; rfl
  · rw [p38] at hi
    have hui := a3 i (by omega)
    have hx : nxV π i = nxV σ i := by
      have e2 : nxV σ i = vM σ 67 (93 * (i + 1)) := by
        unfold nxV
        rw [if_neg (by omega)]
      rw [e2]
      unfold nxV
      by_cases h : i + 1 = s
      · rw [if_pos (by rw [p38]; omega), hvp, h]
      · rw [if_neg (by rw [p38]; omega)]
        exact vM_only p67
    rw [hx, vM_only p67, px 39 (by decide) (by decide) (by decide), px 40 (by decide) (by decide) (by decide), px 41 (by decide) (by decide) (by decide), ok 39 (by omega), ok 40 (by omega), ok 41 (by omega)]
    exact hui
theorem law_undo {σ : HP} (hI : INV σ) : TWO S_X7_undo S_X8_undo [] σ := by
  intro Q1 Q2 h1 h2
  obtain ⟨hV, hM, e0, e1, e2, f0, f1, f2⟩ := pq hI.1
  obtain ⟨a1, a2, a3⟩ := id hI.1.2.2.2.1
  have hco := hI.1.2.2.1.1.2.1
  have o2 := hV.2.1
  have o3 := hV.2.2.1
  refine ⟨a2, ?_⟩
  by_cases h : σ 38 0 = 0
  · rw [if_pos h]
    refine h1 _ _ ⟨by omega, ?_⟩
    rw [a1, if_pos h]
    exact h2 _ _ hI
  · rw [if_neg h]
    obtain ⟨s, hs⟩ : ∃ s : Nat, σ 38 0 = s + 1 := ⟨(σ 38 0 - 1).toNat, by omega⟩
    have hnx : nxV σ s = vC σ 7 := by
      unfold nxV
      rw [if_pos hs.symm]
    obtain ⟨hu, hc⟩ := a3 s (by omega)
    rw [hnx] at hc
    have v38 : ∀ (p : Nat) (x : Int) (q k : Nat) (y : Int), vC (hset (hset σ 38 0 x) q k y) 7 = vC (hset σ q k y) 7 := fun p x q k y => by
      have : hset (hset σ 38 0 x) q k y = hset (hset σ 38 0 x) q k y := rfl
      refine vC_rows (fun i hi => ?_)
      by_cases hq : 7 + i = q
      · subst hq
        rw [hset_eq, hset_eq, hset_row (by omega)]
      · rw [hset_row hq, hset_row hq, hset_row (by omega)]
    have o38 : ∀ (q k : Nat) (y : Int), 7 ≤ q ∧ q ≤ 13 → only σ (hset (hset σ 38 0 (s : Int)) q k y) (fun q => (7 ≤ q ∧ q ≤ 13) ∨ q = 38) := fun q k y hq => only_set (only_set (fun _ _ => rfl) (Or.inr rfl)) (Or.inl hq)
    have k38 : ∀ (q k : Nat) (y : Int), q ≠ 38 → hset (hset σ 38 0 (s : Int)) q k y 38 0 = s := fun q k y hq => by rw [hset_o (Ne.symm hq), hset_same]
    have co8 : ∀ (q k : Nat) (y : Int), q ≠ 13 → (q ≠ 7 ∨ k ≠ 1) → (∀ c, vC (hset (hset σ 38 0 (s : Int)) q k y) 7 4 c = vC σ 7 4 c ∧ vC (hset (hset σ 38 0 (s : Int)) q k y) 7 5 c = vC σ 7 5 c) → coOk (hset (hset σ 38 0 (s : Int)) q k y) 7 := fun q k y h13 h71 hc => by
      refine coOk_v ?_ ?_ hc hco
      · by_cases h7 : q = 7
        · subst h7
          rw [hset_s (by omega), hset_o (by decide)]
        · rw [hset_o (Ne.symm h7), hset_o (by decide)]
      · rw [hset_row (Ne.symm h13), hset_row (by decide)]
    refine ⟨s, hs, by omega, by omega, fun z => ?_, fun z => ?_, fun z => ?_, fun z => ?_⟩
    · obtain ⟨hw, hb⟩ : (0 ≤ σ 40 s ∧ σ 40 s < vC σ 7 0 2) ∧ vM σ 67 (93 * s) = hset (vC σ 7) 6 (σ 40 s).toNat (σ 41 s) := by
        rcases hc with ⟨-, y2, y3⟩ | ⟨y1, -⟩ | ⟨y1, -⟩ | ⟨y1, -⟩
        · exact ⟨y2, y3⟩
        · omega
        · omega
        · omega
      have hv : vC (hset (hset σ 38 0 (s : Int)) 12 (σ 40 s).toNat (σ 41 s)) 7 = hset (vC σ 7) 6 (σ 40 s).toNat (σ 41 s) := by
        rw [v38 0]
        exact vC_k (p := 7) (by omega)
      refine ⟨by omega, h1 _ _ (undo_fin hI h2 hs (by omega) (o38 12 _ _ (by omega)) (k38 12 _ _ (by decide)) (by rw [hv, hb]) (co8 12 _ _ (by decide) (Or.inl (by decide)) (fun c => by rw [hv]; exact ⟨rfl, rfl⟩)))⟩
    · obtain ⟨hw, hb⟩ : (0 ≤ σ 40 s ∧ σ 40 s < vC σ 7 0 1) ∧ vM σ 67 (93 * s) = hset (vC σ 7) 1 (σ 40 s).toNat (σ 41 s) := by
        rcases hc with ⟨y1, -⟩ | ⟨-, y2, y3⟩ | ⟨y1, -⟩ | ⟨y1, -⟩
        · omega
        · exact ⟨y2, y3⟩
        · omega
        · omega
      have hv : vC (hset (hset σ 38 0 (s : Int)) 8 (σ 40 s).toNat (σ 41 s)) 7 = hset (vC σ 7) 1 (σ 40 s).toNat (σ 41 s) := by
        rw [v38 0]
        exact vC_d (p := 7) (by omega)
      refine ⟨by omega, h1 _ _ (undo_fin hI h2 hs (by omega) (o38 8 _ _ (by omega)) (k38 8 _ _ (by decide)) (by rw [hv, hb]) (co8 8 _ _ (by decide) (Or.inl (by decide)) (fun c => by rw [hv]; exact ⟨rfl, rfl⟩)))⟩
    · have hb : vM σ 67 (93 * s) = hset (vC σ 7) 0 0 (σ 41 s) := by
        rcases hc with ⟨y1, -⟩ | ⟨y1, -⟩ | ⟨-, y3⟩ | ⟨y1, -⟩
        · omega
        · omega
        · exact y3
        · omega
      have hv : vC (hset (hset σ 38 0 (s : Int)) 7 0 (σ 41 s)) 7 = hset (vC σ 7) 0 0 (σ 41 s) := by
        rw [v38 0]
        exact vC_g σ 7 _
      exact h1 _ _ (undo_fin hI h2 hs (by omega) (o38 7 _ _ (by omega)) (k38 7 _ _ (by decide)) (by rw [hv, hb]) (co8 7 _ _ (by decide) (Or.inr (by decide)) (fun c => by rw [hv]; exact ⟨rfl, rfl⟩)))
    · obtain ⟨hw, hb⟩ : (-6 ≤ σ 41 s ∧ σ 41 s ≤ 6) ∧ vM σ 67 (93 * s) = shV (vC σ 7) (-(σ 41 s)) := by
        rcases hc with ⟨y1, -⟩ | ⟨y1, -⟩ | ⟨y1, -⟩ | ⟨-, y2, y3⟩
        · omega
        · omega
        · omega
        · exact ⟨y2, y3⟩
      refine ⟨hV, hw, fun κ hκ hvκ => ?_⟩
      have k71 : κ 7 1 = σ 7 1 := by
        rw [← (vC_0 κ 7).2.1, hvκ, ← (vC_0 σ 7).2.1]
        simp [shV]
      refine h1 _ _ (undo_fin hI h2 hs (by omega) (fun q hq => ?_) ?_ (by rw [hvκ, hb]) ?_)
      · rw [hκ q (by omega), hset_row (by omega)]
      · rw [hκ 38 (by omega), hset_same]
      · exact coOk_v k71 (by rw [hκ (7 + 6) (by omega), hset_row (by decide)]) (fun c => by rw [hvκ]; exact shV_4 _ _ _) hco
theorem imgI_o {σ τ : HP} {k : Nat} (h : imgI σ k) (er : ∀ i, i ≤ 6 → τ (44 + 7 * k + i) = σ (44 + 7 * k + i)) (e68 : ∀ j, j < 93 → τ 68 (93 * k + j) = σ 68 (93 * k + j)) (e69 : τ 69 k = σ 69 k) : imgI τ k := by
  obtain ⟨h1, h2, h3, h4, h5⟩ := h
  have hv := vC_rows er
  have e0 : τ (44 + 7 * k) = σ (44 + 7 * k) := er 0 (by omega)
  refine ⟨by rw [e69]; exact h1, by rw [hv]; exact h2, coOk_rows er h3, by rw [e69, e0]; exact h4, fun z => ?_⟩
  rw [e69] at z
  rw [hv, ← h5 z]
  exact vM_snap (by rw [h5 z]; exact h2) e68
theorem imgI_n {σ τ π : HP} {k : Nat} (hk : k < 2) (hI : INV σ) (hc : ¬ σ 7 1 = 0) (ho : only σ τ (inP (44 + 7 * k))) (hv : vC τ (44 + 7 * k) = vC σ 7) (hco : coOk τ (44 + 7 * k)) (hπ : π = hset (hcpy τ 64 0 68 (93 * (k : Int)) 93) 69 k 1) : imgI π k := by
  obtain ⟨hV, hM, e0, e1, e2, f0, f1, f2⟩ := pq hI.1
  have px : ∀ q, q ≠ 68 → q ≠ 69 → π q = τ q := fun q h1 h2 => by rw [hπ, hset_row h2, hcpy_f h1]
  have er : ∀ i, i ≤ 6 → π (44 + 7 * k + i) = τ (44 + 7 * k + i) := fun i hi => px _ (by omega) (by omega)
  have hvp : vC π (44 + 7 * k) = vC σ 7 := by rw [vC_rows er, hv]
  have p69 : π 69 k = 1 := by rw [hπ, hset_same]
  have c1 : π (44 + 7 * k) 1 = σ 7 1 := by rw [← (vC_0 π (44 + 7 * k)).2.1, hvp, ← e1]
  refine ⟨Or.inr p69, by rw [hvp]; exact hV, coOk_rows er hco, by rw [p69, c1]; omega, fun _ => ?_⟩
  rw [hvp, ← hM]
  refine vM_snap (by rw [hM]; exact hV) (fun j hj => ?_)
  have := hcpy_in (σ := τ) (f := 64) (t := 68) (a := 0) (b := 93 * (k : Int)) (n := 93) j (by omega)
  rw [show (93 * (k : Int)).toNat = 93 * k by omega] at this
  rw [hπ, hset_o (by decide), this, ho 64 (by unfold inP; omega)]
  rfl
theorem law_image {σ : HP} {k : Int} (hk : R32 k) (hI : INV σ) : TWO S_X7_image S_X8_image [.inl k] σ := by
  intro Q1 Q2 h1 h2
  obtain ⟨hV, hM, e0, e1, e2, f0, f1, f2⟩ := pq hI.1
  obtain ⟨⟨i1, i2, i3, i4, i5, i6, i7⟩, hst⟩ := id hI
  have o2 := hV.2.1
  refine ⟨hk, hV, ?_⟩
  by_cases h : ¬ (0 ≤ k ∧ k < 2)
  · rw [if_pos h]
    refine h1 _ _ ⟨hk, by omega, ?_⟩
    rw [if_pos h]
    exact h2 _ _ hI
  · rw [if_neg h]
    by_cases h' : σ 7 1 = 0
    · rw [if_pos h']
      refine h1 _ _ ⟨hk, by omega, ?_⟩
      rw [if_neg h, f1, ← e1, if_pos h']
      exact h2 _ _ hI
    · rw [if_neg h']
      obtain ⟨K, hK⟩ : ∃ K : Nat, k = K := ⟨k.toNat, by omega⟩
      subst hK
      rw [Int.toNat_natCast]
      intro τ ho hv hco
      have t64 : τ 64 = σ 64 := ho 64 (by unfold inP; omega)
      refine h1 _ _ ⟨hk, by rw [t64]; omega, ?_⟩
      rw [if_neg h, t64, f1, ← e1, if_neg h', Int.toNat_natCast]
      generalize hπ : hset (hcpy τ 64 0 68 (93 * (K : Int)) 93) 69 K 1 = π
      have px : ∀ q, q ≠ 68 → q ≠ 69 → π q = τ q := fun q h1 h2 => by rw [← hπ, hset_row h2, hcpy_f h1]
      have o : ∀ q, q ≠ 68 → q ≠ 69 → ¬ (44 ≤ q ∧ q ≤ 57) → π q = σ q := fun q h1 h2 h3 => by rw [px q h1 h2, ho q (by unfold inP; omega)]
      have er : ∀ i, i ≤ 6 → π (7 + i) = σ (7 + i) := fun i hi => o _ (by omega) (by omega) (by omega)
      have hn := imgI_n (k := K) (by omega) hI h' ho hv (hco i3.1.2.1) hπ.symm
      have other : ∀ K', K' < 2 → K' ≠ K → imgI σ K' → imgI π K' := fun K' hK' hne hi => by
        refine imgI_o hi (fun i hii => ?_) (fun j hj => ?_) ?_
        · rw [px _ (by omega) (by omega), ho _ (by unfold inP; omega)]
        · rw [← hπ, hset_o (by decide), hcpy_out (by omega), ho 68 (by unfold inP; omega)]
        · rw [← hπ, hset_s hne, hcpy_f (by decide), ho 69 (by unfold inP; omega)]
      refine h2 _ _ ⟨⟨rowI_c i1 (o 2 (by decide) (by decide) (by decide)) (o 3 (by decide) (by decide) (by decide)) (o 4 (by decide) (by decide) (by decide)) (o 59 (by decide) (by decide) (by decide)) (o 60 (by decide) (by decide) (by decide)) (o 61 (by decide) (by decide) (by decide)), tapI_c i2 (by rw [o 5 (by decide) (by decide) (by decide)]) (o 6 (by decide) (by decide) (by decide)) (by rw [o 58 (by decide) (by decide) (by decide)]) (o 63 (by decide) (by decide) (by decide)), ⟨xPre_c i3.1 (fun j _ => by rw [o 0 (by decide) (by decide) (by decide)]) (fun q hq => o q (by omega) (by omega) (by omega)), ?_⟩, actI_c i4 (o 38 (by decide) (by decide) (by decide)) (o 39 (by decide) (by decide) (by decide)) (o 40 (by decide) (by decide) (by decide)) (o 41 (by decide) (by decide) (by decide)) (by rw [o 58 (by decide) (by decide) (by decide)]) (o 67 (by decide) (by decide) (by decide)) (vC_rows er), ?_, traI_c i6 (by rw [o 42 (by decide) (by decide) (by decide)]) (o 43 (by decide) (by decide) (by decide)) (by rw [o 58 (by decide) (by decide) (by decide)]) (o 75 (by decide) (by decide) (by decide)), ?_⟩, ?_⟩
      · rw [vC_rows er, ← hM]
        exact vM_only (o 64 (by decide) (by decide) (by decide))
      · rcases (show K = 0 ∨ K = 1 by omega) with rfl | rfl
        · exact ⟨hn, other 1 (by decide) (by decide) i5.2⟩
        · exact ⟨other 0 (by decide) (by decide) i5.1, hn⟩
      · rw [o 58 (by decide) (by decide) (by decide), o 0 (by decide) (by decide) (by decide)]
        exact i7
      · rw [o 58 (by decide) (by decide) (by decide), o 0 (by decide) (by decide) (by decide)]
        exact hst
theorem law_restore {σ : HP} {k : Int} (hk : R32 k) (hI : INV σ) : TWO S_X7_restore S_X8_restore [.inl k] σ := by
  intro Q1 Q2 h1 h2
  obtain ⟨⟨i1, i2, i3, i4, i5, i6, i7⟩, hst⟩ := id hI
  have kept : ∀ τ : HP, τ 69 = σ 69 → ∀ i, i < 2 → τ 69 i = 0 ∨ τ 69 i = 1 := fun τ e i hi => by
    rw [e]
    rcases (show i = 0 ∨ i = 1 by omega) with rfl | rfl
    · exact i5.1.1
    · exact i5.2.1
  refine ⟨hk, ?_⟩
  by_cases h : ¬ (0 ≤ k ∧ k < 2)
  · rw [if_pos h]
    refine h1 _ _ ⟨hk, kept σ rfl, ?_⟩
    rw [if_pos h]
    exact h2 _ _ hI
  · rw [if_neg h]
    obtain ⟨K, hK⟩ : ∃ K : Nat, k = K := ⟨k.toNat, by omega⟩
    subst hK
    rw [Int.toNat_natCast]
    have him : imgI σ K := by
      rcases (show K = 0 ∨ K = 1 by omega) with rfl | rfl
      · exact i5.1
      · exact i5.2
    obtain ⟨g1, g2, g3, g4, g5⟩ := him
    refine ⟨g2, ?_⟩
    by_cases h' : σ (44 + 7 * K) 1 = 0
    · rw [if_pos h']
      refine h1 _ _ ⟨hk, kept σ rfl, ?_⟩
      rw [if_neg h, Int.toNat_natCast, if_pos (g4.mpr h')]
      exact h2 _ _ hI
    · rw [if_neg h']
      intro τ ho hv hco
      have hk1 : σ 69 K = 1 := by
        rcases g1 with z | z
        · exact absurd (g4.mp z) h'
        · exact z
      have cx : ∀ q, q ≠ 0 → q ≠ 38 → chgd (hset τ 38 0 0) q = τ q := fun q h0 h38 => by rw [chgd_o h0, hset_row h38]
      have c69 : chgd (hset τ 38 0 0) 69 = σ 69 := by rw [cx 69 (by decide) (by decide), ho 69 (by unfold inP; omega)]
      refine h1 _ _ ⟨hk, kept _ c69, ?_⟩
      rw [if_neg h, Int.toNat_natCast, c69, if_neg (by omega)]
      generalize hπ : hset (hcpy (chgd (hset τ 38 0 0)) 68 (93 * (K : Int)) 64 0 93) 58 17 0 = π
      have px : ∀ q, q ≠ 0 → q ≠ 38 → q ≠ 58 → q ≠ 64 → π q = τ q := fun q h0 h1 h2 h3 => by rw [← hπ, hset_row h2, hcpy_f h3, cx q h0 h1]
      have p0 : π 0 = chgd (hset τ 38 0 0) 0 := by rw [← hπ, hset_row (by decide), hcpy_f (by decide)]
      have p38 : π 38 0 = 0 := by rw [← hπ, hset_o (by decide), hcpy_f (by decide), chgd_o (by decide), hset_same]
      have p17 : π 58 17 = 0 := by rw [← hπ, hset_same]
      have er : ∀ i, i ≤ 6 → π (7 + i) = τ (7 + i) := fun i hi => px _ (by omega) (by omega) (by omega) (by omega)
      have hm : vM π 64 0 = vC σ (44 + 7 * K) := by
        rw [← g5 hk1]
        refine vM_snap (by rw [g5 hk1]; exact g2) (fun j hj => ?_)
        have := hcpy_in (σ := chgd (hset τ 38 0 0)) (f := 68) (t := 64) (a := 93 * (K : Int)) (b := 0) (n := 93) j (by omega)
        rw [show (93 * (K : Int)).toNat = 93 * K by omega] at this
        rw [← hπ, hset_o (by decide), show 0 + j = (0 : Int).toNat + j from rfl, this, cx 68 (by decide) (by decide), ho 68 (by unfold inP; omega)]
      refine h2 _ _ (INV_new hI (fun q hq => ?_) (fun j j9 j10 => ?_) ?_ ?_ (fun j hj => ?_) (by rw [vC_rows er, hv]) hm g2 (coOk_rows er (hco g3)) ⟨by rw [p17, p38], by rw [p38]; decide, fun i hi => by omega⟩)
      · rw [px q (by omega) (by omega) (by omega) (by omega), ho q (by unfold inP; omega)]
      · rw [p0, chgd_s j9 j10, hset_o (by decide), ho 0 (by unfold inP; omega)]
      · rw [p0]; rfl
      · rw [p0]; rfl
      · rw [← hπ, hset_s hj, hcpy_f (by decide), cx 58 (by decide) (by decide), ho 58 (by unfold inP; omega)]
theorem law_piece {σ : HP} (hI : INV σ) : TWO S_X7_piece S_X8_piece [] σ := by
  intro Q1 Q2 h1 h2
  obtain ⟨⟨i1, ⟨t1, t2, t3⟩, i3, i4, i5, i6, i7⟩, hst⟩ := id hI
  have hL : ∀ τ : HP, τ 58 = σ 58 → τ 63 = σ 63 → rtk τ ∧ RN (τ 63) (rL τ) = RN (σ 6) (tL σ) := fun τ e1 e2 => by
    refine ⟨?_, ?_⟩
    · unfold rtk
      rw [e1, e2, t2, t3]
      exact t1
    · unfold rL tL
      rw [e1, e2, t2, t3]
  refine ⟨t1, fun τ k q hk hq hR ho h0 h13 h5 => ?_, fun τ q D hR ho h0 h9 h10 h5 h38 hv hV hco => ?_⟩
  · obtain ⟨hrt, hrn⟩ := hL τ (ho 58 (by omega)) (ho 63 (by omega))
    refine h1 _ _ ⟨hrt, fun π k' q' hk' hq' hR' po p58 p6 p7 => ?_, fun π q' D' hR' => ?_⟩
    · have hR' := hR' (σ 5 7)
      rw [hrn, hR] at hR'
      have ek : k = k' := congrArg (fun x : PR => x.1) hR'
      have eq : (q : Int) = q' := congrArg (fun x : PR => x.2.1) hR'
      rw [← eq]
      subst ek
      have o : ∀ x, ¬ (x = 0 ∨ x = 5 ∨ (22 ≤ x ∧ x ≤ 28) ∨ x = 58 ∨ x = 65) → π x = σ x := fun x hx => by rw [po x (by omega), ho x (by omega)]
      have o0 : π 0 = τ 0 := po 0 (by omega)
      have er : ∀ i, i ≤ 6 → π (7 + i) = σ (7 + i) := fun i hi => o _ (by omega)
      have e58 : ∀ j, j < 6 ∨ 12 < j → π 58 j = σ 58 j := fun j hj => by rw [p58 j hj, ho 58 (by omega)]
      have e5 : π 5 1 = 0 := by rw [po 5 (by omega), h5]
      refine h2 _ _ ⟨⟨rowI_c i1 (o 2 (by omega)) (o 3 (by omega)) (o 4 (by omega)) (o 59 (by omega)) (o 60 (by omega)) (o 61 (by omega)), ⟨⟨by rw [e5]; decide, fun j hj => ?_⟩, by rw [p6, e5], by rw [o 63 (by omega), o 6 (by omega), t3]⟩, ⟨xPre_c i3.1 (fun j hj => by rw [o0, h0 j (by omega)]) (fun x hx => o x (by omega)), ?_⟩, actI_c i4 (o 38 (by omega)) (o 39 (by omega)) (o 40 (by omega)) (o 41 (by omega)) (e58 17 (by omega)) (o 67 (by omega)) (vC_rows er), ⟨imgI_c i5.1 (fun i hi => o _ (by omega)) (o 68 (by omega)) (o 69 (by omega)), imgI_c i5.2 (fun i hi => o _ (by omega)) (o 68 (by omega)) (o 69 (by omega))⟩, traI_c i6 (by rw [o 42 (by omega)]) (o 43 (by omega)) (e58 27 (by omega)) (o 75 (by omega)), ?_⟩, ?_⟩
      · rw [o 6 (by omega)]
        exact t1.2 j hj
      · rw [vC_rows er, ← i3.2]
        exact vM_only (o 64 (by omega))
      · rw [p7, o0, h13]
      · rw [e58 4 (by omega), o0, h0 14 (by decide)]
        exact hst
    · have hR' := hR' (σ 5 7)
      rw [hrn, hR] at hR'
      have ek : k = 0 := congrArg (fun x : PR => x.1) hR'
      omega
  · obtain ⟨hrt, hrn⟩ := hL τ (ho 58 (by omega)) (ho 63 (by omega))
    refine h1 _ _ ⟨hrt, fun π k' q' hk' hq' hR' => ?_, fun π q' D' hR' po p58 p6 p7 p17 hm hV' hD1 => ?_⟩
    · have hR' := hR' (σ 5 7)
      rw [hrn, hR] at hR'
      have ek : 0 = k' := congrArg (fun x : PR => x.1) hR'
      omega
    · have hR' := hR' (σ 5 7)
      rw [hrn, hR] at hR'
      have eD : D = D' := congrArg (fun x : PR => x.2.2) hR'
      subst eD
      have o : ∀ x, ¬ (x = 0 ∨ x = 5 ∨ x = 38 ∨ (7 ≤ x ∧ x ≤ 13) ∨ (22 ≤ x ∧ x ≤ 28) ∨ x = 58 ∨ x = 64 ∨ x = 65) → π x = σ x := fun x hx => by rw [po x (by omega), ho x (by omega)]
      have o0 : π 0 = τ 0 := po 0 (by omega)
      have er : ∀ i, i ≤ 6 → π (7 + i) = τ (7 + i) := fun i hi => po _ (by omega)
      have e58 : ∀ j, j < 6 ∨ (12 < j ∧ j ≠ 17) → π 58 j = σ 58 j := fun j hj => by rw [p58 j hj, ho 58 (by omega)]
      have e5 : π 5 1 = 0 := by rw [po 5 (by omega), h5]
      have e38 : π 38 0 = 0 := by rw [po 38 (by omega), h38]
      have e9 : π 0 9 = 1 := by rw [o0, h9]
      have e10 : π 0 10 = 1 := by rw [o0, h10]
      refine h2 _ _ ⟨⟨rowI_c i1 (o 2 (by omega)) (o 3 (by omega)) (o 4 (by omega)) (o 59 (by omega)) (o 60 (by omega)) (o 61 (by omega)), ⟨⟨by rw [e5]; decide, fun j hj => ?_⟩, by rw [p6, e5], by rw [o 63 (by omega), o 6 (by omega), t3]⟩, ⟨⟨by rw [vC_rows er, hv]; exact hV, coOk_rows er hco, Or.inr e9, Or.inr e10, fun z => by omega, fun z => by omega⟩, by rw [vC_rows er, hv, hm]⟩, ⟨by rw [p17, e38], by rw [e38]; decide, fun i hi => by omega⟩, ⟨imgI_c i5.1 (fun i hi => o _ (by omega)) (o 68 (by omega)) (o 69 (by omega)), imgI_c i5.2 (fun i hi => o _ (by omega)) (o 68 (by omega)) (o 69 (by omega))⟩, traI_c i6 (by rw [o 42 (by omega)]) (o 43 (by omega)) (e58 27 (by omega)) (o 75 (by omega)), ?_⟩, ?_⟩
      · rw [o 6 (by omega)]
        exact t1.2 j hj
      · rw [p7, ho 58 (by omega), o0, h0 13 (by decide) (by decide)]
        exact i7
      · rw [e58 4 (by omega), o0, h0 14 (by decide) (by decide)]
        exact hst
