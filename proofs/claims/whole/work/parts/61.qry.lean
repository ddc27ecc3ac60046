/-! ===== one call on both sides: questions ===== -/
def TWO (S1 S2 : MSpec) (a : List AV) (σ : HP) : Prop := ∀ (Q1 : Option AV → HP → Prop) (Q2 : Int → Option AV → HP → Prop), (∀ v τ, S2 (.inr (.inl 58) :: a) τ (Q2 v) → Q1 (some (.inl v)) τ) → (∀ v τ, INV τ → Q2 v (some (.inl v)) τ) → S1 (.inr (.inl 0) :: a) σ Q1
theorem INV_x {σ τ : HP} (h : xS σ τ) (hI : INV σ) : INV τ := ⟨INV0_x h hI.1, by rw [h.1 58 (by unfold xP; omega), h.2.1 14 (by omega)]; exact hI.2⟩
theorem INV_m {σ τ : HP} (h : mS σ τ) (hI : INV σ) : INV τ := ⟨INV0_m h hI.1, by rw [h.2 4 (by decide), h.1 0 (by unfold scP; omega)]; exact hI.2⟩
theorem pq {σ : HP} (h : INV0 σ) : okV (vC σ 7) ∧ vM σ 64 0 = vC σ 7 ∧ σ 7 0 = vC σ 7 0 0 ∧ σ 7 1 = vC σ 7 0 1 ∧ σ 7 2 = vC σ 7 0 2 ∧ σ 64 0 = vC σ 7 0 0 ∧ σ 64 1 = vC σ 7 0 1 ∧ σ 64 2 = vC σ 7 0 2 := by
  obtain ⟨a0, a1, a2⟩ := vC_0 σ 7
  obtain ⟨b0, b1, b2⟩ := vM_0 σ 64
  rw [h.2.2.1.2] at b0 b1 b2
  exact ⟨h.2.2.1.1.1, h.2.2.1.2, a0.symm, a1.symm, a2.symm, b0.symm, b1.symm, b2.symm⟩
theorem law_fault {σ : HP} (hI : INV σ) : TWO S_X7_fault S_X8_fault [] σ := by
  intro Q1 Q2 h1 h2
  refine h1 _ _ ?_
  show Q2 (σ 0 13) (some (.inl (σ 58 7))) σ
  rw [hI.1.2.2.2.2.2.2]
  exact h2 _ _ hI
theorem law_status {σ : HP} (hI : INV σ) : TWO S_X7_status S_X8_status [] σ := by
  intro Q1 Q2 h1 h2
  refine h1 _ _ ?_
  show Q2 (σ 0 14) (some (.inl (σ 58 4))) σ
  rw [hI.2]
  exact h2 _ _ hI
theorem law_place {σ : HP} {p w : Int} (hp : R32 p) (hw : R32 w) (hI : INV σ) : TWO S_X7_place S_X8_place [.inl p, .inl w] σ := fun Q1 Q2 h1 h2 => ⟨hp, hw, h1 _ _ ⟨hp, hw, h2 _ _ hI⟩⟩
theorem law_inWindow {σ : HP} {p w : Int} (hp : R32 p) (hw : R32 w) (hI : INV σ) : TWO S_X7_inWindow S_X8_inWindow [.inl p, .inl w] σ := fun Q1 Q2 h1 h2 => ⟨hp, hw, h1 _ _ ⟨hp, hw, h2 _ _ hI⟩⟩
theorem law_head {σ : HP} {t : Int} (ht : R32 t) (hI : INV σ) : TWO S_X7_head S_X8_head [.inl t] σ := by
  intro Q1 Q2 h1 h2
  obtain ⟨hV, hM, e0, e1, e2, f0, f1, f2⟩ := pq hI.1
  have o1 := hV.1
  have o2 := hV.2.1
  refine ⟨ht, by omega, by omega, h1 _ _ ⟨ht, by omega, by omega, ?_⟩⟩
  rw [f0, f1, ← e0, ← e1]
  exact h2 _ _ hI
theorem law_kind {σ : HP} {c : Int} (hc : R32 c) (hI : INV σ) : TWO S_X7_kind S_X8_kind [.inl c] σ := by
  intro Q1 Q2 h1 h2
  obtain ⟨hV, hM, e0, e1, e2, f0, f1, f2⟩ := pq hI.1
  have o2 := hV.2.1
  refine ⟨hc, by omega, h1 _ _ ⟨hc, by omega, ?_⟩⟩
  by_cases h : 0 ≤ c ∧ c < σ 7 1
  · rw [if_pos h, if_pos (by omega)]
    obtain ⟨g1, -⟩ := vC_c (σ := σ) (p := 7) (c := c.toNat) (by omega)
    obtain ⟨g2, -⟩ := vM_c (σ := σ) (w := 64) (c := c.toNat) (by omega)
    rw [hM, g1] at g2
    have g2 : σ 8 c.toNat = σ 64 (5 * c.toNat + 3) := g2
    rw [show (3 + 5 * c).toNat = 5 * c.toNat + 3 by omega, ← g2]
    exact h2 _ _ hI
  · rw [if_neg h, if_neg (by omega)]
    exact h2 _ _ hI
theorem law_price {σ : HP} {c x : Int} (hc : R32 c) (hx : R32 x) (hI : INV σ) : TWO S_X7_price S_X8_price [.inl c, .inl x] σ := by
  intro Q1 Q2 h1 h2
  obtain ⟨hV, hM, e0, e1, e2, f0, f1, f2⟩ := pq hI.1
  refine ⟨hc, hx, hV, h1 _ _ ⟨hc, hx, by rw [hM]; exact hV, ?_⟩⟩
  rw [hM, f1, ← e1]
  exact h2 _ _ hI
theorem law_trace {σ : HP} {i : Int} (hi : R32 i) (hI : INV σ) : TWO S_X7_trace S_X8_trace [.inl i] σ := by
  intro Q1 Q2 h1 h2
  obtain ⟨g1, g2, g3⟩ := hI.1.2.2.2.2.2.1
  refine ⟨hi, g2, h1 _ _ ⟨hi, by omega, ?_⟩⟩
  by_cases h : 0 ≤ i ∧ i < σ 42 0
  · rw [if_pos h, if_pos (by omega), g3 i.toNat (by omega)]
    exact h2 _ _ hI
  · rw [if_neg h, if_neg (by omega)]
    exact h2 _ _ hI
theorem how_eq {σ : HP} (h : rowI σ) : ∀ n, n ≤ 8 → howJ (σ 59) n = howM (σ 4) n
  | 0, _ => rfl
  | n + 1, hn => by
    have ih := how_eq h n (by omega)
    have hm := rowI_miss h (r := n) (by omega)
    unfold howJ howM
    rw [ih]
    by_cases z : σ 4 n = -1
    · rw [if_pos z, if_pos (hm.mpr z)]
    · rw [if_neg z, if_neg (fun y => z (hm.mp y))]
theorem law_count {σ : HP} {v : Int} (hv : R32 v) (hI : INV σ) : TWO S_X7_count S_X8_count [.inl v] σ := by
  intro Q1 Q2 h1 h2
  obtain ⟨hV, hM, e0, e1, e2, f0, f1, f2⟩ := pq hI.1
  have hr := hI.1.1
  refine ⟨hv, fun r hr' => (hr.1.1 r hr').1, h1 _ _ ⟨hv, fun r hr' => (rowI_ref hr r hr').1, ?_⟩⟩
  rw [how_eq hr 8 (by omega), f0, f1, f2, ← e0, ← e1, ← e2, hI.1.2.2.2.1.1, hI.1.2.1.2.1]
  exact h2 _ _ hI
theorem law_note {σ : HP} {k w : Int} (hk : R32 k) (hw : R32 w) (hI : INV σ) : TWO S_X7_note S_X8_note [.inl k, .inl w] σ := by
  intro Q1 Q2 h1 h2
  obtain ⟨hV, hM, e0, e1, e2, f0, f1, f2⟩ := pq hI.1
  obtain ⟨V, hVe⟩ : ∃ V, V = vC σ 7 := ⟨_, rfl⟩
  have o3 := hV.2.2.1
  refine ⟨hk, hw, hI.1.2.2.1.1, ?_⟩
  by_cases h : ¬ (0 ≤ k ∧ k < σ 7 2) ∨ ¬ (0 ≤ w ∧ w ≤ 5)
  · rw [if_pos h]
    refine h1 _ _ ⟨hk, hw, by rw [hM]; exact hV, ?_⟩
    rw [f2, ← e2, if_pos h]
    exact h2 _ _ hI
  · rw [if_neg h]
    obtain ⟨c, j, hc, hj, hn⟩ := note_of (n := k.toNat) hV (by omega)
    have h4 := (hV.2.2.2.2.1 c (by unfold ncV at hc; omega)).2.2.2.1
    refine ⟨c, j, hc, hj, by omega, ?_⟩
    by_cases w0 : w = 0
    · rw [if_pos w0]
      refine h1 _ _ ⟨hk, hw, by rw [hM]; exact hV, ?_⟩
      rw [f2, ← e2, if_neg h, hM]
      refine ⟨c, j, hc, hj, by omega, ?_⟩
      rw [if_pos w0]
      exact h2 _ _ hI
    · rw [if_neg w0]
      by_cases w1 : w = 1
      · rw [if_pos w1]
        refine h1 _ _ ⟨hk, hw, by rw [hM]; exact hV, ?_⟩
        rw [f2, ← e2, if_neg h, hM]
        refine ⟨c, j, hc, hj, by omega, ?_⟩
        rw [if_neg w0, if_pos w1]
        exact h2 _ _ hI
      · rw [if_neg w1]
        intro τ hx
        have hIt := INV_x hx hI
        have hvt := xP_v hx.1
        obtain ⟨hV', hM', e0', e1', e2', f0', f1', f2'⟩ := pq hIt.1
        rw [hvt] at hV' hM' e0' e1' e2' f0' f1' f2'
        refine h1 _ _ ⟨hk, hw, by rw [hM']; exact hV, ?_⟩
        rw [f2', ← e2, if_neg h, hM']
        refine ⟨c, j, hc, hj, by omega, ?_⟩
        rw [if_neg w0, if_neg w1]
        exact fun τ' hp => h2 _ _ (INV_m (mS_pr hp) hIt)
theorem law_chord {σ : HP} {c w : Int} (hc : R32 c) (hw : R32 w) (hI : INV σ) : TWO S_X7_chord S_X8_chord [.inl c, .inl w] σ := by
  intro Q1 Q2 h1 h2
  obtain ⟨hV, hM, e0, e1, e2, f0, f1, f2⟩ := pq hI.1
  refine ⟨hc, hw, hI.1.2.2.1.1, ?_⟩
  by_cases h : ¬ (0 ≤ c ∧ c < σ 7 1)
  · rw [if_pos h]
    refine h1 _ _ ⟨hc, hw, by rw [hM]; exact hV, ?_⟩
    rw [f1, ← e1, if_pos h]
    exact h2 _ _ hI
  · rw [if_neg h]
    have ask : ∀ τ, xS σ τ → INV τ ∧ vM τ 64 0 = vC σ 7 ∧ τ 64 1 = σ 7 1 := fun τ hx => by
      have hIt := INV_x hx hI
      obtain ⟨hV', hM', e0', e1', e2', f0', f1', f2'⟩ := pq hIt.1
      rw [xP_v hx.1] at hM' f1'
      exact ⟨hIt, hM', by rw [f1', e1]⟩
    by_cases w2 : w = 2
    · rw [if_pos w2]
      intro τ hx
      obtain ⟨hIt, hM', f1'⟩ := ask τ hx
      refine h1 _ _ ⟨hc, hw, by rw [hM']; exact hV, ?_⟩
      rw [f1', if_neg h, if_pos w2, hM']
      exact fun τ' hp => h2 _ _ (INV_m (mS_fd hp) hIt)
    · rw [if_neg w2]
      by_cases w3 : w = 3
      · rw [if_pos w3]
        intro τ hx
        obtain ⟨hIt, hM', f1'⟩ := ask τ hx
        refine h1 _ _ ⟨hc, hw, by rw [hM']; exact hV, ?_⟩
        rw [f1', if_neg h, if_neg w2, if_pos w3, hM']
        exact fun τ' hp => h2 _ _ (INV_m (mS_fd hp) hIt)
      · rw [if_neg w3]
        refine h1 _ _ ⟨hc, hw, by rw [hM]; exact hV, ?_⟩
        rw [f1, ← e1, if_neg h, if_neg w2, if_neg w3, hM]
        exact h2 _ _ hI
theorem law_whole {σ : HP} {w : Int} (hw : R32 w) (hI : INV σ) : TWO S_X7_whole S_X8_whole [.inl w] σ := by
  intro Q1 Q2 h1 h2
  obtain ⟨hV, hM, e0, e1, e2, f0, f1, f2⟩ := pq hI.1
  refine ⟨hw, hI.1.2.2.1.1, ?_⟩
  by_cases h : σ 7 1 = 0
  · rw [if_pos h]
    refine h1 _ _ ⟨hw, by rw [hM]; exact hV, ?_⟩
    rw [f1, ← e1, if_pos h]
    exact h2 _ _ hI
  · rw [if_neg h]
    intro τ hx
    have hIt := INV_x hx hI
    obtain ⟨hV', hM', e0', e1', e2', f0', f1', f2'⟩ := pq hIt.1
    rw [xP_v hx.1] at hM' f1'
    refine h1 _ _ ⟨hw, by rw [hM']; exact hV, ?_⟩
    rw [f1', ← e1, if_neg h, hM']
    exact fun τ' hp => h2 _ _ (INV_m hp hIt)
theorem law_drawn {σ : HP} {m s w : Int} (hm : R32 m) (hs : R32 s) (hw : R32 w) (hI : INV σ) : TWO S_X7_drawn S_X8_drawn [.inl m, .inl s, .inl w] σ := by
  intro Q1 Q2 h1 h2
  obtain ⟨hV, hM, e0, e1, e2, f0, f1, f2⟩ := pq hI.1
  refine ⟨hm, hs, hw, hI.1.2.2.1.1, ?_⟩
  by_cases h : σ 7 1 = 0
  · rw [if_pos h]
    refine h1 _ _ ⟨hm, hs, hw, by rw [hM]; exact hV, ?_⟩
    rw [f1, ← e1, if_pos h]
    exact h2 _ _ hI
  · rw [if_neg h]
    by_cases h' : ¬ (0 ≤ m ∧ m ≤ 20) ∨ ¬ (1 ≤ s ∧ s ≤ 999999) ∨ ¬ (0 ≤ w ∧ w ≤ 1)
    · rw [if_pos h']
      refine h1 _ _ ⟨hm, hs, hw, by rw [hM]; exact hV, ?_⟩
      rw [f1, ← e1, if_neg h, if_pos h']
      exact h2 _ _ hI
    · rw [if_neg h']
      intro τ hx
      have hIt := INV_x hx hI
      obtain ⟨hV', hM', e0', e1', e2', f0', f1', f2'⟩ := pq hIt.1
      rw [xP_v hx.1] at hM' f1'
      refine h1 _ _ ⟨hm, hs, hw, by rw [hM']; exact hV, ?_⟩
      rw [f1', ← e1, if_neg h, if_neg h', hM']
      exact fun τ' hp => h2 _ _ (INV_m hp hIt)
theorem law_as {σ : HP} {c q : Int} (hc : R32 c) (hq : R32 q) (hI : INV σ) : TWO S_X7_as S_X8_as [.inl c, .inl q] σ := by
  intro Q1 Q2 h1 h2
  obtain ⟨hV, hM, e0, e1, e2, f0, f1, f2⟩ := pq hI.1
  refine ⟨hc, hq, hV, ?_⟩
  have ref : ∀ v : Int, vM (hset σ 0 14 v) 64 0 = vC σ 7 ∧ hset σ 0 14 v 64 1 = σ 7 1 := fun v => ⟨(vM_only (hset_row (by decide))).trans hM, by rw [hset_o (by decide), f1, e1]⟩
  by_cases h : ¬ (0 ≤ c ∧ c < σ 7 1) ∨ ¬ (0 ≤ q ∧ q ≤ 5)
  · rw [if_pos h]
    refine h1 _ _ ⟨hc, hq, by rw [hM]; exact hV, ?_⟩
    rw [f1, ← e1, if_pos h]
    exact h2 _ _ hI
  · rw [if_neg h]
    by_cases h' : q = 0 ∨ q = vC σ 7 1 c.toNat ∨ (q = 1 ∧ (vC σ 7 1 c.toNat = 2 ∨ vC σ 7 1 c.toNat = 3)) ∨ (q = 4 ∧ vC σ 7 1 c.toNat = 5)
    · rw [if_pos h']
      refine h1 _ _ ⟨hc, hq, by rw [(ref 0).1]; exact hV, ?_⟩
      rw [(ref 0).1, (ref 0).2, if_neg h, if_pos h']
      exact h2 _ _ (INV_st hI.1)
    · rw [if_neg h']
      refine h1 _ _ ⟨hc, hq, by rw [(ref 3).1]; exact hV, ?_⟩
      rw [(ref 3).1, (ref 3).2, if_neg h, if_neg h']
      exact h2 _ _ (INV_st hI.1)
theorem czZ_c {V : HP} {f g : Nat → Int} : ∀ (d k : Nat) (s : Int), (∀ i, i < k + d → f i = g i) → czZ V f d k s = czZ V g d k s
  | 0, k, s, h => rfl
  | d + 1, k, s, h => by
    have ih := fun s => czZ_c (V := V) d (k + 1) s (fun i hi => h i (by omega))
    unfold czZ
    rw [h k (by omega), h (k - 1) (by omega), ih]
theorem fitF_c {V : HP} {f g : Nat → Int} : ∀ n, (∀ i, i < n → f i = g i) → fitF V f n = fitF V g n
  | 0, h => rfl
  | n + 1, h => by
    have ih := fitF_c (V := V) n (fun i hi => h i (by omega))
    unfold fitF
    rw [ih, h n (by omega)]
theorem orF_c {g g' : Nat → Int} {lo : Nat} (h : ∀ v, g v = g' v) : ∀ k, orF g lo k = orF g' lo k
  | 0 => rfl
  | k + 1 => by
    rw [orF_s, orF_s, orF_c h k, h]
theorem law_cost {σ : HP} {r i : Int} (hr : R32 r) (hi : R32 i) (hI : INV σ) : TWO S_X7_cost S_X8_cost [.inl r, .inl i] σ := by
  intro Q1 Q2 h1 h2
  obtain ⟨hV, hM, e0, e1, e2, f0, f1, f2⟩ := pq hI.1
  have hR := hI.1.1
  have o2 := hV.2.1
  have ref : ∀ v : Int, vM (hset σ 0 14 v) 64 0 = vC σ 7 ∧ hset σ 0 14 v 64 1 = σ 7 1 ∧ hset σ 0 14 v 59 = σ 59 ∧ hset σ 0 14 v 60 = σ 60 ∧ hset σ 0 14 v 61 = σ 61 := fun v => ⟨(vM_only (hset_row (by decide))).trans hM, by rw [hset_o (by decide), f1, e1], hset_row (by decide), hset_row (by decide), hset_row (by decide)⟩
  have pre : ∀ (v : Int) (P : Prop), P → R32 r ∧ R32 i ∧ okV (vM (hset σ 0 14 v) 64 0) ∧ (∀ r, r < 8 → R32 (hset σ 0 14 v 59 r) ∧ (0 ≤ hset σ 0 14 v 60 r ∧ hset σ 0 14 v 60 r ≤ 40)) ∧ (∀ j, R32 (hset σ 0 14 v 61 j)) ∧ P := fun v P hP => by
    obtain ⟨g1, g2, g3, g4, g5⟩ := ref v
    refine ⟨hr, hi, by rw [g1]; exact hV, ?_, ?_, hP⟩
    · rw [g3, g4]; exact rowI_ref hR
    · rw [g5]; exact hR.2.2
  refine ⟨hr, hi, hV, hR.1, ?_⟩
  by_cases h : σ 7 1 = 0
  · rw [if_pos h]
    refine h1 _ _ ⟨hr, hi, by rw [hM]; exact hV, rowI_ref hR, hR.2.2, ?_⟩
    rw [f1, ← e1, if_pos h]
    exact h2 _ _ hI
  · rw [if_neg h]
    by_cases hr8 : ¬ (0 ≤ r ∧ r < 8)
    · rw [if_pos hr8]
      refine h1 _ _ ⟨hr, hi, by rw [hM]; exact hV, rowI_ref hR, hR.2.2, ?_⟩
      rw [f1, ← e1, if_neg h, if_pos (by omega)]
      exact h2 _ _ hI
    · rw [if_neg hr8]
      have hm := rowI_miss hR (r := r.toNat) (by omega)
      obtain ⟨-, -, hit⟩ := hR.2.1 r.toNat (by omega)
      have hb := (hR.1.1 r.toNat (by omega)).1
      by_cases h4 : σ 4 r.toNat = -1
      · rw [if_pos h4]
        refine h1 _ _ (pre 1 _ ?_)
        obtain ⟨g1, g2, g3, g4, g5⟩ := ref 1
        rw [g2, g3, if_neg h, if_neg (by omega), if_pos (hm.mpr h4)]
        exact h2 _ _ (INV_st hI.1)
      · rw [if_neg h4]
        obtain ⟨hs, hit⟩ := hit h4
        by_cases h5 : ¬ (0 ≤ i ∧ σ 7 1 ≤ σ 4 r.toNat - i)
        · rw [if_pos h5]
          refine h1 _ _ (pre 2 _ ?_)
          obtain ⟨g1, g2, g3, g4, g5⟩ := ref 2
          rw [g2, g3, g4, if_neg h, if_neg (by omega), if_neg (fun z => h4 (hm.mp z)), if_pos (by rw [hs]; exact h5)]
          exact h2 _ _ (INV_st hI.1)
        · rw [if_neg h5]
          refine h1 _ _ (pre 0 _ ?_)
          obtain ⟨g1, g2, g3, g4, g5⟩ := ref 0
          rw [g1, g2, g3, g4, g5, if_neg h, if_neg (by omega), if_neg (fun z => h4 (hm.mp z)), if_neg (by rw [hs]; exact h5)]
          have ec : czZ (vC σ 7) (fun k => σ 61 ((40 * r + i).toNat + k)) (ncV (vC σ 7)) 0 0 = czZ (vC σ 7) (fun k => σ 2 ((40 * r + i).toNat + k)) (ncV (vC σ 7)) 0 0 := by
            refine czZ_c _ _ _ (fun k hk => ?_)
            unfold ncV at hk
            have := hit (i.toNat + k) (by omega)
            rw [show (40 * r + i).toNat + k = 40 * r.toNat + (i.toNat + k) by omega]
            exact this
          rw [ec]
          exact h2 _ _ (INV_st hI.1)
theorem law_fits {σ : HP} {c r k w : Int} (hc : R32 c) (hr : R32 r) (hk : R32 k) (hw : R32 w) (hI : INV σ) : TWO S_X7_fits S_X8_fits [.inl c, .inl r, .inl k, .inl w] σ := by
  intro Q1 Q2 h1 h2
  obtain ⟨hV, hM, e0, e1, e2, f0, f1, f2⟩ := pq hI.1
  have hR := hI.1.1
  have o2 := hV.2.1
  refine ⟨hc, hr, hk, hw, hI.1.2.2.1.1, hR.1, ?_⟩
  by_cases h : ¬ (0 ≤ c ∧ c < σ 7 1) ∨ ¬ (0 ≤ r ∧ r < 8) ∨ ¬ (1 ≤ k ∧ k ≤ σ 7 2) ∨ ¬ (0 ≤ w ∧ w ≤ 2)
  · rw [if_pos h]
    refine h1 _ _ ⟨hc, hr, hk, hw, by rw [hM]; exact hV, rowI_ref hR, hR.2.2, ?_⟩
    rw [f1, f2, ← e1, ← e2, if_pos (by omega)]
    exact h2 _ _ hI
  · rw [if_neg h]
    have hm := rowI_miss hR (r := r.toNat) (by omega)
    obtain ⟨-, -, hit⟩ := hR.2.1 r.toNat (by omega)
    have hb := (hR.1.1 r.toNat (by omega)).1
    have go : ∀ (τ : HP) (v : Int), INV0 τ → vC τ 7 = vC σ 7 → τ 59 = σ 59 → τ 60 = σ 60 → τ 61 = σ 61 → ∀ P : Prop, P → R32 c ∧ R32 r ∧ R32 k ∧ R32 w ∧ okV (vM (hset τ 0 14 v) 64 0) ∧ (∀ r, r < 8 → R32 (hset τ 0 14 v 59 r) ∧ (0 ≤ hset τ 0 14 v 60 r ∧ hset τ 0 14 v 60 r ≤ 40)) ∧ (∀ j, R32 (hset τ 0 14 v 61 j)) ∧ P := fun τ v hIt hvt g3 g4 g5 P hP => by
      refine ⟨hc, hr, hk, hw, ?_, ?_, ?_, hP⟩
      · rw [vM_only (hset_row (by decide)), hIt.2.2.1.2, hvt]; exact hV
      · rw [hset_row (by decide), hset_row (by decide), g3, g4]; exact rowI_ref hR
      · rw [hset_row (by decide), g5]; exact hR.2.2
    by_cases h4 : σ 4 r.toNat = -1
    · rw [if_pos h4]
      refine h1 _ _ (go σ 1 hI.1 rfl rfl rfl rfl _ ?_)
      rw [hset_o (by decide), hset_o (by decide), hset_row (q := 59) (by decide), f1, f2, ← e1, ← e2, if_neg (by omega), if_pos (hm.mpr h4)]
      exact h2 _ _ (INV_st hI.1)
    · rw [if_neg h4]
      obtain ⟨hs, hit⟩ := hit h4
      by_cases h5 : ¬ (k ≤ σ 4 r.toNat)
      · rw [if_pos h5]
        refine h1 _ _ (go σ 2 hI.1 rfl rfl rfl rfl _ ?_)
        rw [hset_o (by decide), hset_o (by decide), hset_row (q := 59) (by decide), hset_row (q := 60) (by decide), f1, f2, ← e1, ← e2, if_neg (by omega), if_neg (fun z => h4 (hm.mp z)), if_pos (by rw [hs]; exact h5)]
        exact h2 _ _ (INV_st hI.1)
      · rw [if_neg h5]
        intro τ hx
        have hIt := INV_x hx hI
        have hvt := xP_v hx.1
        obtain ⟨hV', hM', e0', e1', e2', f0', f1', f2'⟩ := pq hIt.1
        rw [hvt] at hM' f1' f2'
        have o := hx.1
        have g3 : τ 59 = σ 59 := o 59 (by unfold xP; omega)
        have g4 : τ 60 = σ 60 := o 60 (by unfold xP; omega)
        have g5 : τ 61 = σ 61 := o 61 (by unfold xP; omega)
        refine h1 _ _ (go τ 0 hIt.1 hvt g3 g4 g5 _ ?_)
        rw [hset_o (by decide), hset_o (by decide), hset_row (q := 59) (by decide), hset_row (q := 60) (by decide), hset_row (q := 61) (by decide), f1', f2', ← e1, ← e2, g3, g4, g5, if_neg (by omega), if_neg (fun z => h4 (hm.mp z)), if_neg (by rw [hs]; exact h5), vM_only (hset_row (by decide)), hM']
        have ec : ftZ (vC σ 7) c.toNat w (fun j => σ 61 ((40 * r).toNat + j)) k.toNat = ftZ (vC σ 7) c.toNat w (fun j => σ 2 ((40 * r).toNat + j)) k.toNat := by
          unfold ftZ
          refine orF_c (fun v => fitF_c _ (fun j hj => ?_)) _
          have := hit j (by omega)
          rw [show (40 * r).toNat + j = 40 * r.toNat + j by omega]
          exact this
        rw [ec]
        intro τ' hp
        have hz := INV0_m hp (INV0_s (v := 0) hIt.1)
        refine h2 _ _ ⟨INV0_t hz, ?_⟩
        rw [hset_same, hset_o (by decide), hp.1 0 (by unfold scP; omega), hset_same]
theorem law_ask {σ : HP} {c w : Int} (hc : R32 c) (hw : R32 w) (hI : INV σ) : TWO S_X7_ask S_X8_ask [.inl c, .inl w] σ := by
  intro Q1 Q2 h1 h2
  obtain ⟨hV, hM, e0, e1, e2, f0, f1, f2⟩ := pq hI.1
  refine ⟨hc, hw, hI.1.2.2.1.1, ?_⟩
  by_cases h : ¬ (0 ≤ c ∧ c < σ 7 1) ∨ ¬ (0 ≤ w ∧ w ≤ 1)
  · rw [if_pos h]
    refine h1 _ _ ⟨hc, hw, by rw [hM]; exact hV, ?_⟩
    rw [f1, ← e1, if_pos h]
    exact h2 _ _ hI
  · rw [if_neg h]
    intro τ hx
    have hIt := INV_x hx hI
    have hvt := xP_v hx.1
    obtain ⟨hV', hM', e0', e1', e2', f0', f1', f2'⟩ := pq hIt.1
    rw [hvt] at hM' f1'
    generalize hL : akL w (vC σ 7 1 c.toNat) = L
    generalize hbe : begS τ (vC σ 7 1 c.toNat) c (vC σ 7 5 c.toNat) ((winV (vC σ 7) c.toNat : Int) - 15) = β
    have b0 : β 42 0 = 0 := by rw [← hbe]; rfl
    have bo : ∀ q, q ≠ 42 → β q = τ q := fun q hq => by
      rw [← hbe]
      unfold begS
      rw [hset_row hq, hset_row hq, hset_row hq, hset_row hq, hset_row hq]
    generalize hρ : pushL 42 0 43 β L = ρ
    have ro : ∀ q, q ≠ 42 → q ≠ 43 → ρ q = τ q := fun q h1 h2 => by rw [← hρ, pushL_o h1 h2, bo q h1]
    have r42 : ρ 42 0 = L.length := by rw [← hρ, pushL_n, b0]; omega
    have r43 : ∀ j, j < L.length → ρ 43 j = L.getD j 0 := fun j hj => by
      have := pushL_at (p := 42) (k := 0) (q := 43) (by decide) L β j (by omega) hj
      rw [b0, hρ] at this
      simpa using this
    have hlen : L.length ≤ 6 := by rw [← hL]; exact akL_len
    have hM2 : vM ρ 64 0 = vC σ 7 := (vM_only (ro 64 (by decide) (by decide))).trans hM'
    refine h1 _ _ ⟨hc, hw, by rw [hM2]; exact hV, ?_⟩
    rw [ro 64 (by decide) (by decide), f1', ← e1, if_neg h, hM2, hL]
    have key : INV (pushL 58 27 75 (hset ρ 58 27 0) L) := by
      generalize hκ : pushL 58 27 75 (hset ρ 58 27 0) L = κ
      have z27 : hset ρ 58 27 0 58 27 = 0 := hset_same
      have ko : ∀ q, q ≠ 58 → q ≠ 75 → κ q = ρ q := fun q h1 h2 => by rw [← hκ, pushL_o h1 h2, hset_row h1]
      have k58 : ∀ j, j ≠ 27 → κ 58 j = ρ 58 j := fun j hj => by rw [← hκ, pushL_s hj (by decide), hset_s hj]
      have k27 : κ 58 27 = L.length := by rw [← hκ, pushL_n, z27]; omega
      have k75 : ∀ j, j < L.length → κ 75 j = L.getD j 0 := fun j hj => by
        have := pushL_at (p := 58) (k := 27) (q := 75) (by decide) L (hset ρ 58 27 0) j (by omega) hj
        rw [z27, hκ] at this
        simpa using this
      have e42 : κ 42 = ρ 42 := ko 42 (by decide) (by decide)
      have e43 : κ 43 = ρ 43 := ko 43 (by decide) (by decide)
      refine ⟨INV0_r hIt.1 (fun q hq => ?_) (fun j _ => ?_) (fun j h4 h27 => ?_) ?_ ?_, ?_⟩
      · rw [ko q (by omega) (by omega), ro q (by omega) (by omega)]
      · rw [ko 0 (by decide) (by decide), ro 0 (by decide) (by decide)]
      · rw [k58 j h27, ro 58 (by decide) (by decide)]
      · refine rowI_c hIt.1.1 ?_ ?_ ?_ ?_ ?_ ?_ <;> rw [ko _ (by decide) (by decide), ro _ (by decide) (by decide)]
      · refine ⟨by rw [k27, e42, r42], by rw [e42, r42]; omega, fun j hj => ?_⟩
        rw [e42, r42] at hj
        rw [k75 j (by omega), e43, r43 j (by omega)]
      · rw [k58 4 (by decide), ro 58 (by decide) (by decide), ko 0 (by decide) (by decide), ro 0 (by decide) (by decide)]
        exact hIt.2
    intro τ' hp
    rcases hp with rfl | hp
    · exact h2 _ _ key
    · exact h2 _ _ (INV_m (mS_fd hp) key)
