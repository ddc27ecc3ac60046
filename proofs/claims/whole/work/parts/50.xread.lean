/-! ===== the class: a piece is read ===== -/
def Z0 : HP := fun _ _ => 0
/-- what holds between two tokens -/
def rdI (w b f lk : Int) (D : HP) : Prop := (0 ≤ w ∧ w ≤ 9) ∧ (b = 0 ∨ b = 1) ∧ (f = 0 ∨ f = 1) ∧ ((w ≠ 4 ∧ w ≠ 5) → okV D ∧ D 0 2 ≤ 4 * D 0 1 ∧ (D 0 1 = 0 → b = 1 ∧ f = 1)) ∧ ((w = 4 ∨ w = 5) → (-1 ≤ lk ∧ lk < 12) ∧ ∃ D0 j, opP D D0 j ∧ (w = 4 → j ≤ 3) ∧ (w = 5 → 1 ≤ j ∧ j ≤ 4))
def rdP : Nat → Prop := fun q => q = 5 ∨ inP 22 q
def S_X6_step : MSpec := fun a σ Q => match a with
  | [.inr (.inl 5), .inr (.inl 22)] => ∃ (p : Nat) (w b f lk : Int) (D : HP), σ 5 6 = w ∧ σ 5 7 = lk ∧ σ 5 8 = b ∧ σ 5 9 = f ∧ vC σ 22 = D ∧ coOk σ 22 ∧ rdI w b f lk D ∧ σ 5 3 = tkT (σ 6) (tL σ) p ∧ tkT (σ 6) (tL σ) p ≠ -1 ∧ (-1000 ≤ σ 5 3 ∧ σ 5 3 ≤ 1000) ∧ (σ 5 3 = -3 → σ 5 5 = tkV (σ 6) (tL σ) p ∧ (-1000 ≤ σ 5 5 ∧ σ 5 5 ≤ 1000)) ∧
    (∀ τ r, (1 ≤ r ∧ r ≤ 3) → runB (RN (σ 6) (tL σ)) (σ 6) (tL σ) p w b f lk D = fltR r p → only σ τ rdP → τ 5 1 = σ 5 1 → τ 5 2 = σ 5 2 → Q (some (.inl r)) τ) ∧
    (∀ τ w' b' f' lk' D', runB (RN (σ 6) (tL σ)) (σ 6) (tL σ) p w b f lk D = RN (σ 6) (tL σ) (p + tkW (σ 6) (tL σ) p) w' b' f' lk' D' → only σ τ rdP → τ 5 1 = σ 5 1 → τ 5 2 = σ 5 2 → τ 5 4 = σ 5 4 → τ 5 6 = w' → τ 5 7 = lk' → τ 5 8 = b' → τ 5 9 = f' → vC τ 22 = D' → coOk τ 22 → rdI w' b' f' lk' D' → Q (some (.inl 0)) τ)
  | _ => False
theorem rc_X6_step : ∀ a σ Q, S_X6_step a σ Q → ∃ (p : Nat) (r : List AV), a = .inr (.inl p) :: r ∧ p < 76 ∧ (SH p).1 = 4 ∧ (SH p).2.1 = 5 := by
  intro a σ Q h
  unfold S_X6_step at h
  split at h
  · exact ⟨5, _, rfl, by decide, rfl, rfl⟩
  · exact h.elim
theorem coOk_g {σ : HP} {p : Nat} {v : Int} (h : coOk σ p) : coOk (hset σ p 0 v) p := by
  refine coOk_v ?_ ?_ (fun c => ?_) h
  · rw [hset_s (by decide)]
  · rw [hset_row (by omega)]
  · rw [vC_g]
    exact ⟨rfl, rfl⟩
set_option maxHeartbeats 4000000 in
theorem step_F : ∀ a σ Q, S_X6_step a σ Q → S_X6_stepF a σ Q := by
  intro a σ Q h
  unfold S_X6_step at h
  split at h
  rotate_left
  · exact h.elim
  obtain ⟨p, w, b, f, lk, D, hw, hlk, hb, hf, hD, hco, ⟨w09, b01, f01, hI, hJ⟩, hT, hne, hTb, hV, hq1, hq2⟩ := h
  generalize hB : σ 6 = B at *
  generalize hL : tL σ = L at *
  have g5 : ∀ τ : HP, (∀ q, q ≠ 5 → τ q = σ q) → vC τ 22 = D ∧ coOk τ 22 ∧ only σ τ rdP := fun τ hτ => by
    have ho : only σ τ (fun q => q = 5) := fun q hq => hτ q hq
    refine ⟨?_, coOk_only ho (fun i hi => by omega) hco, fun q hq => hτ q (fun e => hq (Or.inl e))⟩
    rw [vC_only ho (fun i hi => by omega), hD]
  have rt : R32 (σ 5 3) := ⟨by omega, by omega⟩
  obtain ⟨v0, v1, v2⟩ := vC_0 σ 22
  rw [hD] at v0 v1 v2
  have self := g5 σ (fun q _ => rfl)
  -- a step that only sets what is wanted
  have go : ∀ w' : Int, rdI w' b f lk D → runB (RN B L) B L p w b f lk D = RN B L (p + tkW B L p) w' b f lk D → Q (some (.inl 0)) (hset σ 5 6 w') := fun w' hr hR => by
    obtain ⟨z1, z2, z3⟩ := g5 (hset σ 5 6 w') (fun q hq => hset_row hq)
    exact hq2 _ w' b f lk D hR z3 (by rw [hset_s (by decide)]) (by rw [hset_s (by decide)]) (by rw [hset_s (by decide)]) hset_same (by rw [hset_s (by decide), hlk]) (by rw [hset_s (by decide), hb]) (by rw [hset_s (by decide), hf]) z1 z2 hr
  have bad : ∀ r : Int, (1 ≤ r ∧ r ≤ 3) → runB (RN B L) B L p w b f lk D = fltR r p → Q (some (.inl r)) σ := fun r hr hR => hq1 σ r hr hR self.2.2 rfl rfl
  have hrb : runB (RN B L) B L p w b f lk D = if tkT B L p = -1 then (if w = 6 then (0, (p : Int), D) else fltR 1 p) else _ := rfl
  rw [if_neg hne] at hrb
  have want : ∀ t w' : Int, (-100 ≤ t ∧ t ≤ 1000) → rdI w' b f lk D → (runB (RN B L) B L p w b f lk D = if tkT B L p = t then RN B L (p + tkW B L p) w' b f lk D else fltR 1 p) → S_X6_want [.inr (.inl 5), .inl t, .inl w'] σ Q := fun t w' ht hr hR => by
    refine ⟨rt, ⟨by omega, by omega⟩, ?_⟩
    by_cases h : σ 5 3 = t
    · rw [if_pos h]
      rw [if_pos (hT.symm.trans h)] at hR
      exact go w' hr hR
    · rw [if_neg h]
      rw [if_neg (fun z => h (hT.trans z))] at hR
      exact bad 1 (by omega) hR
  refine ⟨by rw [hw]; exact w09, ?_⟩
  rw [hw]
  rcases (show w = 0 ∨ w = 1 ∨ w = 2 ∨ w = 3 ∨ w = 4 ∨ w = 5 ∨ w = 6 ∨ w = 7 ∨ w = 8 ∨ w = 9 by omega) with h | h | h | h | h | h | h | h | h | h
  · subst h
    rw [if_pos rfl] at hrb ⊢
    exact want 107 1 (by omega) ⟨by omega, b01, f01, fun _ => hI (by omega), fun z => by omega⟩ hrb
  · subst h
    rw [if_neg (by omega), if_pos rfl] at hrb ⊢
    refine ⟨rt, fun z => ⟨by have := (hV z).2; omega, by have := (hV z).2; omega⟩, ?_⟩
    by_cases h : σ 5 3 = -3
    · rw [if_pos h]
      rw [if_pos (hT.symm.trans h), ← (hV h).1] at hrb
      by_cases h' : 0 ≤ σ 5 5 ∧ σ 5 5 < 15
      · rw [if_pos h']
        rw [if_pos h'] at hrb
        obtain ⟨i1, i2, i3⟩ := hI (by omega)
        have hv : vC (hset (hset σ 22 0 (σ 5 5)) 5 6 2) 22 = hset D 0 0 (σ 5 5) := by rw [vC_hset (by omega), vC_g, hD]
        refine hq2 _ 2 b f lk _ hrb (only_set (only_set (fun q _ => rfl) (Or.inr (by unfold inP; omega))) (Or.inl rfl)) ?_ ?_ ?_ hset_same ?_ ?_ ?_ hv ?_ ⟨by omega, b01, f01, fun _ => ⟨okV_g i1 (by omega), i2, i3⟩, fun z => by omega⟩
        · rw [hset_s (by decide), hset_o (by decide)]
        · rw [hset_s (by decide), hset_o (by decide)]
        · rw [hset_s (by decide), hset_o (by decide)]
        · rw [hset_s (by decide), hset_o (by decide), hlk]
        · rw [hset_s (by decide), hset_o (by decide), hb]
        · rw [hset_s (by decide), hset_o (by decide), hf]
        · exact coOk_only (P := fun q => q = 5) (fun q hq => hset_row hq) (fun i hi => by omega) (coOk_g hco)
      · rw [if_neg h']
        rw [if_neg h'] at hrb
        exact bad 2 (by omega) hrb
    · rw [if_neg h]
      rw [if_neg (fun z => h (hT.trans z))] at hrb
      exact bad 1 (by omega) hrb
  · subst h
    rw [if_neg (by omega), if_neg (by omega), if_pos rfl] at hrb ⊢
    exact want 59 3 (by omega) ⟨by omega, b01, f01, fun _ => hI (by omega), fun z => by omega⟩ hrb
  rotate_left
  · subst h
    rw [if_neg (by omega), if_neg (by omega), if_neg (by omega), if_neg (by omega), if_neg (by omega), if_pos rfl] at hrb ⊢
    obtain ⟨l1, D0, j, hO, hj, -⟩ := hJ (by omega)
    have hj := hj rfl
    refine ⟨rt, fun z => ⟨by have := (hV z).2; omega, by have := (hV z).2; omega⟩, ⟨by omega, by omega⟩, ⟨D0, j, by rw [hD]; exact hO, hj⟩, ?_⟩
    by_cases h : σ 5 3 = -3
    · rw [if_pos h]
      rw [if_pos (hT.symm.trans h), ← (hV h).1] at hrb
      rw [hlk]
      by_cases h' : (0 ≤ σ 5 5 ∧ σ 5 5 < 12) ∧ lk < σ 5 5
      · rw [if_pos h']
        rw [if_pos h'] at hrb
        intro τ t1 t2 t3
        have e5 : τ 5 = σ 5 := t1 5 (by unfold inP; omega)
        have ho : only τ (hset (hset τ 5 7 (σ 5 5)) 5 6 5) (fun q => q = 5) := only_set (only_set (fun q _ => rfl) rfl) rfl
        refine hq2 _ 5 b f (σ 5 5) _ hrb (only_set (only_set (fun q hq => t1 q (fun z => hq (Or.inr z))) (Or.inl rfl)) (Or.inl rfl)) ?_ ?_ ?_ hset_same ?_ ?_ ?_ ?_ (coOk_only ho (fun i hi => by omega) (t3 hco)) ⟨by omega, b01, f01, fun z => by omega, fun _ => ⟨by omega, D0, j + 1, ?_, fun z => by omega, fun _ => by omega⟩⟩
        · rw [hset_s (by decide), hset_s (by decide), e5]
        · rw [hset_s (by decide), hset_s (by decide), e5]
        · rw [hset_s (by decide), hset_s (by decide), e5]
        · rw [hset_s (by decide), hset_same]
        · rw [hset_s (by decide), hset_s (by decide), e5, hb]
        · rw [hset_s (by decide), hset_s (by decide), e5, hf]
        · rw [vC_only ho (fun i hi => by omega), t2, hD]
        · obtain ⟨kd, b0, f0, g, e, hV0, hc0, hkd, hb0, hf0, hz, hg, hn⟩ := hO
          refine ⟨kd, b0, f0, fun i => if i = j then σ 5 5 else g i, ?_, hV0, hc0, hkd, hb0, hf0, hz, fun i hi => ?_, hn⟩
          · rw [e]
            exact adK_op hV0.2.1.1 hV0.2.2.1.1
          · dsimp only
            by_cases hij : i = j
            · rw [if_pos hij]; exact h'.1
            · rw [if_neg hij]; exact hg i (by omega)
      · rw [if_neg h']
        rw [if_neg h'] at hrb
        exact bad 2 (by omega) hrb
    · rw [if_neg h]
      rw [if_neg (fun z => h (hT.trans z))] at hrb
      exact bad 1 (by omega) hrb
  · subst h
    rw [if_neg (by omega), if_neg (by omega), if_neg (by omega), if_neg (by omega), if_neg (by omega), if_neg (by omega), if_pos rfl] at hrb ⊢
    obtain ⟨l1, D0, j, hO, -, hj⟩ := hJ (by omega)
    have hj := hj rfl
    obtain ⟨kd, b0, f0, g, e, hV0, hc0, hkd, hb0, hf0, hz, hg, hn⟩ := id hO
    have hsz : szD D = j := by rw [e]; exact szD_op hV0.2.1.1
    have hd1 : D 0 1 = D0 0 1 + 1 := by rw [e]; rfl
    have hd0 := hV0.2.1.1
    refine ⟨rt, by omega, by rw [hD, hsz]; exact ⟨by omega, by omega⟩, ?_⟩
    rw [hD, hsz, ← v1]
    rw [hsz] at hrb
    by_cases h : σ 5 3 = 44 ∧ (0 < D 0 1 ∧ (j : Int) < 4)
    · rw [if_pos h]
      rw [if_pos ⟨hT.symm.trans h.1, h.2⟩] at hrb
      exact go 4 ⟨by omega, b01, f01, fun z => by omega, fun _ => ⟨l1, D0, j, hO, fun _ => by omega, fun z => by omega⟩⟩ hrb
    · rw [if_neg h]
      rw [if_neg (fun z => h ⟨hT.trans z.1, z.2⟩)] at hrb
      by_cases h' : σ 5 3 = 59
      · rw [if_pos h']
        rw [if_pos (hT.symm.trans h')] at hrb
        have hok := opD_ok hV0 hc0 hkd hb0 hf0 hz hj hg hn
        rw [← e] at hok
        exact go 6 ⟨by omega, b01, f01, fun _ => ⟨hok.1, hok.2, fun z => by omega⟩, fun z => by omega⟩ hrb
      · rw [if_neg h']
        rw [if_neg (fun z => h' (hT.trans z))] at hrb
        exact bad 1 (by omega) hrb
  rotate_left
  · subst h
    rw [if_neg (by omega), if_neg (by omega), if_neg (by omega), if_pos rfl] at hrb ⊢
    exact want 59 8 (by omega) ⟨by omega, b01, f01, fun _ => hI (by omega), fun z => by omega⟩ hrb
  rotate_left
  · subst h
    rw [if_neg (by omega), if_neg (by omega), if_neg (by omega), if_neg (by omega), if_pos rfl] at hrb ⊢
    exact want 59 3 (by omega) ⟨by omega, b01, f01, fun _ => hI (by omega), fun z => by omega⟩ hrb
  all_goals
    have h368 : w = 3 ∨ w = 6 ∨ w = 8 := by omega
    clear h
    rw [if_neg (by omega), if_neg (by omega), if_neg (by omega), if_neg (by omega), if_neg (by omega), if_neg (by omega), if_neg (by omega)] at hrb ⊢
    obtain ⟨i1, i2, i3⟩ := hI (by omega)
    refine ⟨rt, ⟨by omega, by omega⟩, ?_⟩
    rw [hw]
    by_cases h : σ 5 3 = 98 ∧ w = 6
    · rw [if_pos h]
      rw [if_pos ⟨h.2, hT.symm.trans h.1⟩] at hrb
      obtain ⟨z1, z2, z3⟩ := g5 (hset (hset σ 5 8 1) 5 6 7) (fun q hq => by rw [hset_row hq, hset_row hq])
      exact hq2 _ 7 1 f lk D hrb z3 (by rw [hset_s (by decide), hset_s (by decide)]) (by rw [hset_s (by decide), hset_s (by decide)]) (by rw [hset_s (by decide), hset_s (by decide)]) hset_same (by rw [hset_s (by decide), hset_s (by decide), hlk]) (by rw [hset_s (by decide), hset_same]) (by rw [hset_s (by decide), hset_s (by decide), hf]) z1 z2 ⟨by omega, Or.inr rfl, f01, fun _ => ⟨i1, i2, fun z => ⟨rfl, (i3 z).2⟩⟩, fun z => by omega⟩
    · rw [if_neg h]
      rw [if_neg (fun z => h ⟨hT.trans z.2, z.1⟩)] at hrb
      by_cases h' : σ 5 3 = 102 ∧ w ≠ 3
      · rw [if_pos h']
        rw [if_pos ⟨h'.2, hT.symm.trans h'.1⟩] at hrb
        obtain ⟨z1, z2, z3⟩ := g5 (hset (hset σ 5 9 1) 5 6 9) (fun q hq => by rw [hset_row hq, hset_row hq])
        exact hq2 _ 9 b 1 lk D hrb z3 (by rw [hset_s (by decide), hset_s (by decide)]) (by rw [hset_s (by decide), hset_s (by decide)]) (by rw [hset_s (by decide), hset_s (by decide)]) hset_same (by rw [hset_s (by decide), hset_s (by decide), hlk]) (by rw [hset_s (by decide), hset_s (by decide), hb]) (by rw [hset_s (by decide), hset_same]) z1 z2 ⟨by omega, b01, Or.inr rfl, fun _ => ⟨i1, i2, fun z => ⟨(i3 z).1, rfl⟩⟩, fun z => by omega⟩
      · rw [if_neg h']
        rw [if_neg (fun z => h' ⟨hT.trans z.2, z.1⟩)] at hrb
        unfold runS at hrb
        refine ⟨rt, by rw [hD]; exact i1, by rw [hb]; exact b01, by rw [hf]; exact f01, ?_⟩
        rw [hD, hb, hf, ← v1]
        rw [← hT] at hrb
        have hkb := kdZ_b (σ 5 3)
        by_cases hk : kdZ (σ 5 3) = 0
        · rw [if_pos hk]
          rw [if_pos hk] at hrb
          exact bad 1 (by omega) hrb
        · rw [if_neg hk]
          rw [if_neg hk] at hrb
          by_cases h10 : 10 ≤ D 0 1
          · rw [if_pos h10]
            rw [if_pos h10] at hrb
            exact bad 3 (by omega) hrb
          · rw [if_neg h10]
            rw [if_neg h10] at hrb
            intro τ t1 t2 t3
            have e5 : τ 5 = σ 5 := t1 5 (by unfold inP; omega)
            have ho : only τ (hset (hset (hset (hset τ 5 8 0) 5 9 0) 5 7 (-1)) 5 6 4) (fun q => q = 5) := only_set (only_set (only_set (only_set (fun q _ => rfl) rfl) rfl) rfl) rfl
            refine hq2 _ 4 0 0 (-1) _ hrb (fun q hq => ?_) ?_ ?_ ?_ hset_same ?_ ?_ ?_ ?_ (coOk_only ho (fun i hi => by omega) (t3 hco)) ⟨by omega, Or.inl rfl, Or.inl rfl, fun z => by omega, fun _ => ⟨by omega, D, 0, ⟨kdZ (σ 5 3), b, f, fun _ => 0, rfl, i1, by omega, by omega, b01, f01, i3, fun i hi => by omega, i2⟩, fun _ => by omega, fun z => by omega⟩⟩
            · rw [ho q (fun z => hq (Or.inl z)), t1 q (fun z => hq (Or.inr z))]
            · rw [hset_s (by decide), hset_s (by decide), hset_s (by decide), hset_s (by decide), e5]
            · rw [hset_s (by decide), hset_s (by decide), hset_s (by decide), hset_s (by decide), e5]
            · rw [hset_s (by decide), hset_s (by decide), hset_s (by decide), hset_s (by decide), e5]
            · rw [hset_s (by decide), hset_same]
            · rw [hset_s (by decide), hset_s (by decide), hset_s (by decide), hset_same]
            · rw [hset_s (by decide), hset_s (by decide), hset_same]
            · rw [vC_only ho (fun i hi => by omega), t2]
theorem ok_X6_step : ∀ l n, 3 ≤ n → ∀ a σ Q, S_X6_step a σ Q → AM l n yX6_step cX6_step 2 (some .int) a σ Q := fun l n hn a σ Q h => okF_X6_step l n hn a σ Q (step_F a σ Q h)
theorem tkT_b {B : Nat → Int} {L p : Nat} (hB : p < L → 0 ≤ B p ∧ B p ≤ 255) : -1000 ≤ tkT B L p ∧ tkT B L p ≤ 1000 := by
  unfold tkT
  (repeat' split) <;> omega
theorem tkT_3 {B : Nat → Int} {L p : Nat} (h : tkT B L p = -3) : (0 ≤ tkV B L p ∧ tkV B L p ≤ 99) := by
  unfold tkT at h
  unfold tkV
  have hd : isDg B L p := by
    by_cases h1 : L ≤ p
    · rw [if_pos h1] at h; omega
    · rw [if_neg h1] at h
      by_cases h2 : isDg B L p
      · exact h2
      · rw [if_neg h2] at h
        split at h <;> omega
  obtain ⟨d1, d2, d3⟩ := hd
  split
  · rename_i h4
    obtain ⟨f1, f2, f3⟩ := h4
    omega
  · omega
def S_X6_readInto : MSpec := fun a σ Q => match a with
  | [.inr (.inl 5), .inr (.inl 22)] => tpk σ ∧
    (∀ τ (k : Int) (q : Nat), (1 ≤ k ∧ k ≤ 3) → q ≤ 130 → RN (σ 6) (tL σ) 0 0 1 1 (σ 5 7) Z0 = fltR k q → only σ τ rdP → τ 5 1 = σ 5 1 → τ 5 2 = q → Q (some (.inl k)) τ) ∧
    (∀ τ (q : Nat) D, RN (σ 6) (tL σ) 0 0 1 1 (σ 5 7) Z0 = (0, (q : Int), D) → only σ τ rdP → τ 5 1 = σ 5 1 → vC τ 22 = D → okV D → coOk τ 22 → Q (some (.inl 0)) τ)
  | _ => False
theorem rc_X6_readInto : ∀ a σ Q, S_X6_readInto a σ Q → ∃ (p : Nat) (r : List AV), a = .inr (.inl p) :: r ∧ p < 76 ∧ (SH p).1 = 4 ∧ (SH p).2.1 = 5 := by
  intro a σ Q h
  unfold S_X6_readInto at h
  split at h
  · exact ⟨5, _, rfl, by decide, rfl, rfl⟩
  · exact h.elim
def mT_X6_readInto (i : Nat) : Option (Nat × Bool × MSpec) := match i with
  | 22 => some (1, true, S_X4_clear)
  | 37 => some (1, true, S_X6_takeToken)
  | 43 => some (2, true, S_X6_step)
  | _ => none
theorem mT_X6_readInto_ok {l : Launch} {n : Nat} (hn : 4 ≤ n) : ∀ i e, mT_X6_readInto i = some e → mV l (rmOf n) RX6 i e := by
  intro i e h
  unfold mT_X6_readInto at h
  split at h
  · cases h; exact mvI (lv := 0) (ci := 3) (T := TX4) (N := 9) mw_X4_clear rfl (by omega) (by decide) (by decide +kernel) (gtm 347 (by decide +kernel) (by decide +kernel)) rc_X4_clear ok_X4_clear
  · cases h; exact mvI (lv := 2) (ci := 5) (T := TX6) (N := 10) mw_X6_takeToken rfl (by omega) (by decide) (by decide +kernel) (gtm 351 (by decide +kernel) (by decide +kernel)) rc_X6_takeToken ok_X6_takeToken
  · cases h; exact mvI (lv := 3) (ci := 5) (T := TX6) (N := 10) mw_X6_step rfl (by omega) (by decide) (by decide +kernel) (gtm 363 (by decide +kernel) (by decide +kernel)) rc_X6_step ok_X6_step
  · cases h
set_option maxRecDepth 100000 in
set_option maxHeartbeats 8000000 in
theorem ok_X6_readInto : ∀ l n, 4 ≤ n → ∀ a σ Q, S_X6_readInto a σ Q → AM l n yX6_readInto cX6_readInto 4 (some .int) a σ Q := by
  intro l n hn a σ Q hS
  unfold S_X6_readInto at hS
  split at hS
  rotate_left
  · exact hS.elim
  obtain ⟨hT, hq1, hq2⟩ := hS
  obtain ⟨B, hB⟩ : ∃ B, B = σ 6 := ⟨_, rfl⟩
  obtain ⟨L, hL⟩ : ∃ L, L = tL σ := ⟨_, rfl⟩
  rw [← hB, ← hL] at hq1 hq2
  obtain ⟨t1, t2⟩ := id hT
  have hL' : (L : Int) = σ 5 1 := by rw [hL]; unfold tL; omega
  refine am_ofF 1 cpX6 mT_X6_readInto (plainFor_of_name (by decide +kernel)) (rfl) (Nat.le_of_ble_eq_true rfl) (cpX6_ok) (mT_X6_readInto_ok hn) (fun K hK => ?_)
  have loop : ∀ (n p i : Nat) (w b f lk : Int) (D τ : HP) (o3 : Option AV), p ≤ L → L - p < n → i ≤ p → rdI w b f lk D → only σ τ rdP → τ 5 1 = σ 5 1 → τ 5 2 = p → τ 5 6 = w → τ 5 7 = lk → τ 5 8 = b → τ 5 9 = f → vC τ 22 = D → coOk τ 22 → RN B L 0 0 1 1 (σ 5 7) Z0 = RN B L p w b f lk D → K 26 [some (.inr (.inl 5)), some (.inr (.inl 22)), some (.inl (i : Int)), o3] [] τ := by
    intro n
    induction n with
    | zero => intro p i w b f lk D τ o3 _ h; omega
    | succ n ih =>
      intro p i w b f lk D τ o3 hp hn hi hI ho h1 h2 h6 h7 h8 h9 hD hco hR
      have e6 : τ 6 = B := by rw [ho 6 (by unfold rdP inP; omega), hB]
      have eL : tL τ = L := by unfold tL; rw [h1, ← hL']; omega
      have hTt : tpk τ := by unfold tpk; rw [h1, e6, hB]; exact hT
      have hRB := hR.trans (RN_eq hp)
      have hTb : -1000 ≤ tkT B L p ∧ tkT B L p ≤ 1000 := tkT_b (fun h => by rw [hB]; exact t2 p (by omega))
      -- behind the token
      have tok : ∀ ρ, tkP τ ρ → ρ 5 3 = tkT B L p → ρ 5 4 = tkW B L p → (ρ 5 3 = -3 → ρ 5 5 = tkV B L p) → only σ ρ rdP ∧ ρ 5 1 = σ 5 1 ∧ ρ 5 2 = p ∧ ρ 5 6 = w ∧ ρ 5 7 = lk ∧ ρ 5 8 = b ∧ ρ 5 9 = f ∧ vC ρ 22 = D ∧ coOk ρ 22 ∧ ρ 6 = B ∧ tL ρ = L := by
        intro ρ g1 g2 g3 g4
        have gj := g1.2
        refine ⟨fun q hq => ?_, ?_, ?_, ?_, ?_, ?_, ?_, ?_, ?_, ?_, ?_⟩
        · rw [g1.1 q (fun z => hq (Or.inl z)), ho q hq]
        · rw [gj 1 (by decide) (by decide) (by decide), h1]
        · rw [gj 2 (by decide) (by decide) (by decide), h2]
        · rw [gj 6 (by decide) (by decide) (by decide), h6]
        · rw [gj 7 (by decide) (by decide) (by decide), h7]
        · rw [gj 8 (by decide) (by decide) (by decide), h8]
        · rw [gj 9 (by decide) (by decide) (by decide), h9]
        · rw [vC_only g1.1 (fun i hi => by omega), hD]
        · exact coOk_only g1.1 (fun i hi => by omega) hco
        · rw [g1.1 6 (by decide), e6]
        · unfold tL
          rw [gj 1 (by decide) (by decide) (by decide), h1, ← hL']
          omega
      refine hK (fun q => q == 26) 100 _ _ _ _ ?_
      simp only [↓wp, ↓stp, ilen, lnth, st1, st2, nolong, nohead, rnth, ↓gfX, ↓pfX, gfV, pfV, cpF, cpP, cndZ, ↓tgo, ↓tsw, ↓lsw, ↓ldI, ↓ldA, ↓ldL, ↓stI, ↓stA, ↓stL, ↓bin, ↓binD, ↓binL, ↓binDL, ↓una, ↓acV, ↓acK, ↓acpy, ↓inv, entL, nones, List.length_cons, List.length_nil, List.take, List.drop, List.reverse_cons, List.reverse_nil, List.nil_append, List.cons_append, Option.toList_some, Option.toList_none, Nat.reduceAdd, Nat.reduceSub, Nat.reduceLT, Nat.reduceEqDiff, Fin.isValue, aTL, aSZ, Int.toNat_natCast, hset_same, hset_o, hset_s, hset_row, ne_eq, Nat.reduceBEq, beq_self_eq_true, Fin.val_zero, Fin.val_one, fin0, fin1, fin2, fin3, Nat.le_refl, Nat.reduceLeDiff, Nat.zero_le, Int.reduceAdd, Int.reduceNeg, Int.reduceLE, Int.reduceLT, Int.reduceToNat, Int.reduceMul, Int.cast_ofNat_Int, Nat.reduceMod, ↓reduceIte, if_true, if_false, and_true, true_and, or_true, true_or, false_or, or_false, and_self, not_true_eq_false, not_false_eq_true, Bool.false_eq_true, reduceCtorEq, false_implies, true_implies, implies_true, and_false, false_and, dX6_readInto_0, dX6_readInto_1, dX6_readInto_4, dX6_readInto_5, dX6_readInto_6, dX6_readInto_9, dX6_readInto_10, dX6_readInto_11, dX6_readInto_14, dX6_readInto_15, dX6_readInto_16, dX6_readInto_19, dX6_readInto_20, dX6_readInto_21, dX6_readInto_24, dX6_readInto_25, dX6_readInto_26, dX6_readInto_27, dX6_readInto_30, dX6_readInto_33, dX6_readInto_34, dX6_readInto_37, dX6_readInto_38, dX6_readInto_41, dX6_readInto_42, dX6_readInto_45, dX6_readInto_46, dX6_readInto_49, dX6_readInto_51, dX6_readInto_54, dX6_readInto_55, dX6_readInto_58, dX6_readInto_59, dX6_readInto_60, dX6_readInto_61, dX6_readInto_62, dX6_readInto_65, dX6_readInto_66, dX6_readInto_67, dX6_readInto_70, dX6_readInto_71, dX6_readInto_72, dX6_readInto_73, dX6_readInto_74, dX6_readInto_77, dX6_readInto_78, dX6_readInto_81, dX6_readInto_82, dX6_readInto_85, dX6_readInto_88, dX6_readInto_91, dX6_readInto_92, cpX6, mT_X6_readInto, SHl_0, SHl_1, SHl_2, SHl_3, SHl_4, SHl_5, SHl_6, SHl_7, SHl_8, SHl_9, SHl_10, SHl_11, SHl_12, SHl_13, SHl_14, SHl_15, SHl_16, SHl_17, SHl_18, SHl_19, SHl_20, SHl_21, SHl_22, SHl_23, SHl_24, SHl_25, SHl_26, SHl_27, SHl_28, SHl_29, SHl_30, SHl_31, SHl_32, SHl_33, SHl_34, SHl_35, SHl_36, SHl_37, SHl_38, SHl_39, SHl_40, SHl_41, SHl_42, SHl_43, SHl_44, SHl_45, SHl_46, SHl_47, SHl_48, SHl_49, SHl_50, SHl_51, SHl_52, SHl_53, SHl_54, SHl_55, SHl_56, SHl_57, S_X4_clear, S_X6_step, S_X6_takeToken]
      refine ⟨⟨by omega, by omega⟩, ⟨by omega, by omega⟩, fun q => by omega, fun _ => ⟨hTt, by omega, fun ρ g1 g2 g3 g4 => ?_⟩⟩
      rw [h2, e6, eL, Int.toNat_natCast] at g2 g3 g4
      obtain ⟨x0, x1, x2, x6, x7, x8, x9, xD, xc, xB, xL⟩ := tok ρ g1 g2 g3 g4
      have w09 := hI.1
      refine ⟨⟨by omega, by omega⟩, ⟨by decide, by decide⟩, fun hz => ?_, fun hz => ?_⟩
      · -- a token
        refine ⟨p, w, b, f, lk, D, x6, x7, x8, x9, xD, xc, hI, by rw [xB, xL]; exact g2, by rw [xB, xL, ← g2]; exact hz, by omega, fun z => ?_, ?_, ?_⟩
        · rw [xB, xL]
          have := tkT_3 (g2.symm.trans z)
          have := g4 z
          exact ⟨this, by omega⟩
        · intro τ' r hr hrr y1 y2 y3
          rw [xB, xL] at hrr
          refine ⟨⟨by omega, by omega⟩, fun z => by omega, fun _ => ?_⟩
          exact hq1 τ' r p hr (by omega) (hRB.trans hrr) (fun q hq => (y1 q hq).trans (x0 q hq)) (y2.trans x1) (y3.trans x2)
        · intro τ' w' b' f' lk' D' hrr y1 y2 y3 y4 y6 y7 y8 y9 yD yc yI
          rw [xB, xL] at hrr
          have hW := tkW_le (B := B) (L := L) (p := p) (by rw [← g2]; exact hz)
          refine ⟨⟨by decide, by decide⟩, ?_⟩
          have := ih (p + tkW B L p) (i + 1) w' b' f' lk' D' (hset τ' 5 2 (((p + tkW B L p : Nat)) : Int)) (some (.inl 0)) hW.2 (by omega) (by omega) yI (only_set (fun q hq => (y1 q hq).trans (x0 q hq)) (Or.inl rfl)) (by rw [hset_s (by decide), y2, x1]) hset_same (by rw [hset_s (by decide), y6]) (by rw [hset_s (by decide), y7]) (by rw [hset_s (by decide), y8]) (by rw [hset_s (by decide), y9]) (by rw [vC_hset (by omega), yD]) (coOk_only (P := fun q => q = 5) (fun q hq => hset_row hq) (fun i hi => by omega) yc) (hRB.trans hrr)
          rw [y3, x2, y4, g3]
          exact this
      · -- the end
        have hz' : tkT B L p = -1 := by rw [← g2]; omega
        have hr0 : RN B L 0 0 1 1 (σ 5 7) Z0 = if w = 6 then (0, (p : Int), D) else fltR 1 p := by
          rw [hRB]
          unfold runB
          rw [if_pos hz']
        rw [x6]
        refine ⟨⟨by omega, by omega⟩, ⟨by omega, by omega⟩, fun h => ?_, fun h => ?_⟩
        · rw [if_neg h] at hr0
          exact hq1 ρ 1 p (by omega) (by omega) hr0 x0 x1 x2
        · have h : w = 6 := by omega
          rw [if_pos h] at hr0
          exact hq2 ρ p D hr0 x0 x1 xD (hI.2.2.2.1 (by omega)).1 xc
  refine hK (fun q => q == 26) 100 _ _ _ _ ?_
  simp only [↓wp, ↓stp, ilen, lnth, st1, st2, nolong, nohead, rnth, ↓gfX, ↓pfX, gfV, pfV, cpF, cpP, cndZ, ↓tgo, ↓tsw, ↓lsw, ↓ldI, ↓ldA, ↓ldL, ↓stI, ↓stA, ↓stL, ↓bin, ↓binD, ↓binL, ↓binDL, ↓una, ↓acV, ↓acK, ↓acpy, ↓inv, entL, nones, List.length_cons, List.length_nil, List.take, List.drop, List.reverse_cons, List.reverse_nil, List.nil_append, List.cons_append, Option.toList_some, Option.toList_none, Nat.reduceAdd, Nat.reduceSub, Nat.reduceLT, Nat.reduceEqDiff, Fin.isValue, aTL, aSZ, Int.toNat_natCast, hset_same, hset_o, hset_s, hset_row, ne_eq, Nat.reduceBEq, beq_self_eq_true, Fin.val_zero, Fin.val_one, fin0, fin1, fin2, fin3, Nat.le_refl, Nat.reduceLeDiff, Nat.zero_le, Int.reduceAdd, Int.reduceNeg, Int.reduceLE, Int.reduceLT, Int.reduceToNat, Int.reduceMul, Int.cast_ofNat_Int, Nat.reduceMod, ↓reduceIte, if_true, if_false, and_true, true_and, or_true, true_or, false_or, or_false, and_self, not_true_eq_false, not_false_eq_true, Bool.false_eq_true, reduceCtorEq, false_implies, true_implies, implies_true, and_false, false_and, dX6_readInto_0, dX6_readInto_1, dX6_readInto_4, dX6_readInto_5, dX6_readInto_6, dX6_readInto_9, dX6_readInto_10, dX6_readInto_11, dX6_readInto_14, dX6_readInto_15, dX6_readInto_16, dX6_readInto_19, dX6_readInto_20, dX6_readInto_21, dX6_readInto_24, dX6_readInto_25, dX6_readInto_26, dX6_readInto_27, dX6_readInto_30, dX6_readInto_33, dX6_readInto_34, dX6_readInto_37, dX6_readInto_38, dX6_readInto_41, dX6_readInto_42, dX6_readInto_45, dX6_readInto_46, dX6_readInto_49, dX6_readInto_51, dX6_readInto_54, dX6_readInto_55, dX6_readInto_58, dX6_readInto_59, dX6_readInto_60, dX6_readInto_61, dX6_readInto_62, dX6_readInto_65, dX6_readInto_66, dX6_readInto_67, dX6_readInto_70, dX6_readInto_71, dX6_readInto_72, dX6_readInto_73, dX6_readInto_74, dX6_readInto_77, dX6_readInto_78, dX6_readInto_81, dX6_readInto_82, dX6_readInto_85, dX6_readInto_88, dX6_readInto_91, dX6_readInto_92, cpX6, mT_X6_readInto, SHl_0, SHl_1, SHl_2, SHl_3, SHl_4, SHl_5, SHl_6, SHl_7, SHl_8, SHl_9, SHl_10, SHl_11, SHl_12, SHl_13, SHl_14, SHl_15, SHl_16, SHl_17, SHl_18, SHl_19, SHl_20, SHl_21, SHl_22, SHl_23, SHl_24, SHl_25, SHl_26, SHl_27, SHl_28, SHl_29, SHl_30, SHl_31, SHl_32, SHl_33, SHl_34, SHl_35, SHl_36, SHl_37, SHl_38, SHl_39, SHl_40, SHl_41, SHl_42, SHl_43, SHl_44, SHl_45, SHl_46, SHl_47, SHl_48, SHl_49, SHl_50, SHl_51, SHl_52, SHl_53, SHl_54, SHl_55, SHl_56, SHl_57, S_X4_clear, S_X6_step, S_X6_takeToken]
  generalize hτ : hset (hset (hset (hset (hset (hset (hset σ 22 0 0) 22 1 0) 22 2 0) 5 2 0) 5 6 0) 5 8 1) 5 9 1 = τ
  have hD : vC τ 22 = Z0 := by
    rw [← hτ, vC_hset (by omega), vC_hset (by omega), vC_hset (by omega), vC_hset (by omega)]
    funext k c
    rcases k with _ | _ | _ | _ | _ | _ | _ | k <;> simp only [vC, hset_at, Nat.zero_add, Nat.reduceAdd, Z0]
    · rcases c with _ | _ | _ | c <;> simp <;> omega
    all_goals first | rfl | (rw [if_neg (by simp)])
  have okz : okV Z0 := by
    unfold okV Z0
    simp
  have z7 : τ 5 7 = σ 5 7 := by rw [← hτ]; rfl
  refine loop (L + 1) 0 0 0 1 1 (σ 5 7) Z0 τ none (by omega) (by omega) (by omega) ⟨by omega, Or.inr rfl, Or.inr rfl, fun _ => ⟨okz, by decide, fun _ => ⟨rfl, rfl⟩⟩, fun z => by omega⟩ (fun q hq => ?_) ?_ ?_ ?_ z7 ?_ ?_ hD (fun c j hc => ?_) rfl
  · unfold rdP inP at hq
    rw [← hτ, hset_row (by omega), hset_row (by omega), hset_row (by omega), hset_row (by omega), hset_row (by omega), hset_row (by omega), hset_row (by omega)]
  · rw [← hτ]; rfl
  · rw [← hτ]; rfl
  · rw [← hτ]; rfl
  · rw [← hτ]; rfl
  · rw [← hτ]; rfl
  · have : τ 22 1 = 0 := by rw [← hτ]; rfl
    omega
def S_X7_piece : MSpec := fun a σ Q => match a with
  | [.inr (.inl 0)] => tpk σ ∧
    (∀ τ (k : Int) (q : Nat), (1 ≤ k ∧ k ≤ 3) → q ≤ 130 → RN (σ 6) (tL σ) 0 0 1 1 (σ 5 7) Z0 = fltR k q → only σ τ (fun p => p = 0 ∨ p = 5 ∨ (22 ≤ p ∧ p ≤ 28)) → (∀ j, j ≠ 13 → τ 0 j = σ 0 j) → τ 0 13 = k → τ 5 1 = 0 → Q (some (.inl (-1000100 - (q : Int)))) τ) ∧
    (∀ τ (q : Nat) D, RN (σ 6) (tL σ) 0 0 1 1 (σ 5 7) Z0 = (0, (q : Int), D) → only σ τ (fun p => p = 0 ∨ p = 5 ∨ p = 38 ∨ (7 ≤ p ∧ p ≤ 13) ∨ (22 ≤ p ∧ p ≤ 28)) → (∀ j, j ≠ 9 → j ≠ 10 → τ 0 j = σ 0 j) → τ 0 9 = 1 → τ 0 10 = 1 → τ 5 1 = 0 → τ 38 0 = 0 → vC τ 7 = D → okV D → coOk τ 7 → Q (some (.inl (D 0 1))) τ)
  | _ => False
theorem rc_X7_piece : ∀ a σ Q, S_X7_piece a σ Q → ∃ (p : Nat) (r : List AV), a = .inr (.inl p) :: r ∧ p < 76 ∧ (SH p).1 = 4 ∧ (SH p).2.1 = 6 := by
  intro a σ Q h
  unfold S_X7_piece at h
  split at h
  · exact ⟨0, _, rfl, by decide, rfl, rfl⟩
  · exact h.elim
def mT_X7_piece (i : Nat) : Option (Nat × Bool × MSpec) := match i with
  | 126 => some (2, true, S_X6_readInto)
  | 134 => some (2, true, S_X4_becomeLike)
  | 138 => some (1, true, S_X0_forgetAll)
  | 141 => some (1, true, S_X7_changed)
  | _ => none
theorem mT_X7_piece_ok {l : Launch} {n : Nat} (hn : 5 ≤ n) : ∀ i e, mT_X7_piece i = some e → mV l (rmOf n) RX7 i e := by
  intro i e h
  unfold mT_X7_piece at h
  split at h
  · cases h; exact mvI (lv := 4) (ci := 5) (T := TX6) (N := 10) mw_X6_readInto rfl (by omega) (by decide) (by decide +kernel) (gtm 343 (by decide +kernel) (by decide +kernel)) rc_X6_readInto ok_X6_readInto
  · cases h; exact mvI (lv := 0) (ci := 3) (T := TX4) (N := 9) mw_X4_becomeLike rfl (by omega) (by decide) (by decide +kernel) (gtm 413 (by decide +kernel) (by decide +kernel)) rc_X4_becomeLike ok_X4_becomeLike
  · cases h; exact mvI (lv := 0) (ci := 0) (T := TX0) (N := 4) mw_X0_forgetAll rfl (by omega) (by decide) (by decide +kernel) (gtm 418 (by decide +kernel) (by decide +kernel)) rc_X0_forgetAll ok_X0_forgetAll
  · cases h; exact mvI (lv := 0) (ci := 6) (T := TX7) (N := 15) mw_X7_changed rfl (by omega) (by decide) (by decide +kernel) (gtm 422 (by decide +kernel) (by decide +kernel)) rc_X7_changed ok_X7_changed
  · cases h
set_option maxRecDepth 100000 in
set_option maxHeartbeats 4000000 in
theorem ok_X7_piece : ∀ l n, 5 ≤ n → ∀ a σ Q, S_X7_piece a σ Q → AM l n yX7_piece cX7_piece 2 (some .int) a σ Q := by
  intro l n hn a σ Q hS
  unfold S_X7_piece at hS
  split at hS
  rotate_left
  · exact hS.elim
  obtain ⟨hT, hq1, hq2⟩ := hS
  refine am_ofF 1 cpX7 mT_X7_piece (plainFor_of_name (by decide +kernel)) (rfl) (Nat.le_of_ble_eq_true rfl) (cpX7_ok) (mT_X7_piece_ok hn) (fun K hK => ?_)
  refine hK (fun _ => false) 200 _ _ _ _ ?_
  simp only [↓wp, ↓stp, ilen, lnth, st1, st2, nolong, nohead, rnth, ↓gfX, ↓pfX, gfV, pfV, cpF, cpP, cndZ, ↓tgo, ↓tsw, ↓lsw, ↓ldI, ↓ldA, ↓ldL, ↓stI, ↓stA, ↓stL, ↓bin, ↓binD, ↓binL, ↓binDL, ↓una, ↓acV, ↓acK, ↓acpy, ↓inv, entL, nones, List.length_cons, List.length_nil, List.take, List.drop, List.reverse_cons, List.reverse_nil, List.nil_append, List.cons_append, Option.toList_some, Option.toList_none, Nat.reduceAdd, Nat.reduceSub, Nat.reduceLT, Nat.reduceEqDiff, Fin.isValue, aTL, aSZ, Int.toNat_natCast, hset_same, hset_o, hset_s, hset_row, ne_eq, Nat.reduceBEq, beq_self_eq_true, Fin.val_zero, Fin.val_one, fin0, fin1, fin2, fin3, Nat.le_refl, Nat.reduceLeDiff, Nat.zero_le, Int.reduceAdd, Int.reduceNeg, Int.reduceLE, Int.reduceLT, Int.reduceToNat, Int.reduceMul, Int.cast_ofNat_Int, Nat.reduceMod, ↓reduceIte, if_true, if_false, and_true, true_and, or_true, true_or, false_or, or_false, and_self, not_true_eq_false, not_false_eq_true, Bool.false_eq_true, reduceCtorEq, false_implies, true_implies, implies_true, and_false, false_and, dX7_piece_0, dX7_piece_1, dX7_piece_4, dX7_piece_5, dX7_piece_8, dX7_piece_11, dX7_piece_12, dX7_piece_13, dX7_piece_16, dX7_piece_17, dX7_piece_20, dX7_piece_21, dX7_piece_24, dX7_piece_25, dX7_piece_26, dX7_piece_29, dX7_piece_31, dX7_piece_32, dX7_piece_35, dX7_piece_38, dX7_piece_39, dX7_piece_40, dX7_piece_41, dX7_piece_44, dX7_piece_45, dX7_piece_48, dX7_piece_51, dX7_piece_52, dX7_piece_55, dX7_piece_58, dX7_piece_59, dX7_piece_62, dX7_piece_63, dX7_piece_66, dX7_piece_69, cpX7, mT_X7_piece, SHl_0, SHl_1, SHl_2, SHl_3, SHl_4, SHl_5, SHl_6, SHl_7, SHl_8, SHl_9, SHl_10, SHl_11, SHl_12, SHl_13, SHl_14, SHl_15, SHl_16, SHl_17, SHl_18, SHl_19, SHl_20, SHl_21, SHl_22, SHl_23, SHl_24, SHl_25, SHl_26, SHl_27, SHl_28, SHl_29, SHl_30, SHl_31, SHl_32, SHl_33, SHl_34, SHl_35, SHl_36, SHl_37, SHl_38, SHl_39, SHl_40, SHl_41, SHl_42, SHl_43, SHl_44, SHl_45, SHl_46, SHl_47, SHl_48, SHl_49, SHl_50, SHl_51, SHl_52, SHl_53, SHl_54, SHl_55, SHl_56, SHl_57, S_X0_forgetAll, S_X4_becomeLike, S_X6_readInto, S_X7_changed]
  refine ⟨hT, fun τ k q hk hq hR ho h1 h2 => ?_, fun τ q D hR ho h1 hD hV hco => ?_⟩
  · have e0 : τ 0 = σ 0 := ho 0 (by unfold rdP inP; omega)
    refine ⟨⟨by omega, by omega⟩, fun z => by omega, fun _ => ?_⟩
    rw [h2]
    refine hq1 _ k q hk hq hR (fun p hp => ?_) (fun j hj => ?_) hset_same ?_
    · rw [hset_row (by omega), hset_row (by omega), ho p (by unfold rdP inP; omega)]
    · rw [hset_s hj, hset_o (by decide), e0]
    · rw [hset_o (by decide), hset_same]
  · have e0 : τ 0 = σ 0 := ho 0 (by unfold rdP inP; omega)
    have hv : vC (hset τ 5 1 0) 22 = D := by rw [vC_hset (by omega), hD]
    refine ⟨⟨by decide, by decide⟩, isPc_7, isPc_22, by rw [hv]; exact hV, fun ρ r1 r2 r3 => ?_⟩
    have hco' : coOk ρ 7 := r3 (coOk_only (P := fun q => q = 5) (fun q hq => hset_row hq) (fun i hi => by omega) hco)
    rw [hv] at r2
    have e7 : ρ 7 1 = D 0 1 := by rw [← r2]; rfl
    rw [e7]
    have r0 : ρ 0 = σ 0 := by rw [r1 0 (by unfold inP; omega), hset_row (by decide), e0]
    refine hq2 _ q D hR (fun p hp => ?_) (fun j j9 j10 => ?_) ?_ hset_same ?_ ?_ ?_ hV ?_
    · rw [hset_row (by omega), hset_row (by omega), hset_row (by omega), r1 p (by unfold inP; omega), hset_row (by omega), ho p (by unfold rdP inP; omega)]
    · rw [hset_s j10, hset_s j9, hset_o (by decide), r0]
    · rw [hset_s (by decide), hset_same]
    · rw [hset_o (by decide), hset_o (by decide), hset_o (by decide), r1 5 (by unfold inP; omega), hset_same]
    · rw [hset_o (by decide), hset_o (by decide), hset_same]
    · rw [vC_hset (by omega), vC_hset (by omega), vC_hset (by omega), r2]
    · exact coOk_only (P := fun q => q = 0 ∨ q = 38) (fun q hq => by rw [hset_row (by omega), hset_row (by omega), hset_row (by omega)]) (fun i hi => by omega) hco'
