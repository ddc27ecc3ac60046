/-! ===== spell ===== -/
def coOk (σ : HP) (p : Nat) : Prop := ∀ c j : Nat, (c : Int) < σ p 1 → (j : Int) < vC σ p 5 c → σ (p + 6) ((vC σ p 4 c).toNat + j) = c
def spP (b : Nat) : Nat → Prop := fun q => q = b ∨ q = b + 2 ∨ q = b + 3 ∨ q = b + 7
def spNotes (τ : HP) (b : Nat) (V : HP) : Prop := ∀ c j : Nat, c < ncV V → (j : Int) < V 5 c → τ (b + 2) ((V 4 c).toNat + j) = plV V c j ∧ τ (b + 3) ((V 4 c).toNat + j) = prV V c j
def spOk (σ τ : HP) (b : Nat) (V : HP) : Prop := only σ τ (spP b) ∧ τ b 0 = σ b 0 ∧ τ b 1 = σ b 1 ∧ τ b 2 = signsV V ∧ spNotes τ b V
/-- firsts rise -/
theorem V4_mono {V : HP} (hV : okV V) : ∀ (d c : Nat), c + d < ncV V → 0 < d → V 4 c + V 5 c ≤ V 4 (c + d)
  | 0, c, _, h => absurd h (Nat.lt_irrefl 0)
  | 1, c, h, _ => by
    have := (hV.2.2.2.2.1 c (by unfold ncV at h; omega)).2.2.2.2.2.2.2.1 (by unfold ncV at h; omega)
    omega
  | d + 2, c, h, _ => by
    have h1 := V4_mono hV (d + 1) c (by omega) (by omega)
    have h2 := hV.2.2.2.2.1 (c + (d + 1)) (by unfold ncV at h; omega)
    have h3 := h2.2.2.2.2.2.2.2.1 (by unfold ncV at h; omega)
    rw [show c + (d + 2) = c + (d + 1) + 1 by omega]
    omega
def S_X2_spell : MSpec := fun a σ Q => match a with
  | [.inr (.inl b), .inr (.inl p)] => isBs b ∧ isPc p ∧ sepBP b p ∧ okV (vC σ p) ∧ 1 ≤ σ p 1 ∧ coOk σ p ∧ (∀ c, c < ncV (vC σ p) → σ (b + 1) c = (winV (vC σ p) c : Int) - 15) ∧ ∀ τ, spOk σ τ b (vC σ p) → Q none τ
  | _ => False
theorem rc_X2_spell : ∀ a σ Q, S_X2_spell a σ Q → ∃ (p : Nat) (r : List AV), a = .inr (.inl p) :: r ∧ p < 76 ∧ (SH p).1 = 4 ∧ (SH p).2.1 = 2 := by
  intro a σ Q h
  unfold S_X2_spell at h
  split at h
  · exact ⟨_, _, rfl, h.1.lt, by rw [h.1.1], by rw [h.1.1]⟩
  · exact h.elim
def mT_X2_spell (i : Nat) : Option (Nat × Bool × MSpec) := match i with
  | 96 => some (2, true, S_X2_beginBar)
  | 102 => some (2, false, S_X3_placeIn)
  | 107 => some (2, true, S_X2_print)
  | _ => none
theorem mT_X2_spell_ok {l : Launch} {n : Nat} (hn : 3 ≤ n) : ∀ i e, mT_X2_spell i = some e → mV l (rmOf n) RX2 i e := by
  intro i e h
  unfold mT_X2_spell at h
  split at h
  · cases h; exact mvI (lv := 1) (ci := 2) (T := TX2) (N := 10) mw_X2_beginBar rfl (by omega) (by decide) (by decide +kernel) (gtm 575 (by decide +kernel) (by decide +kernel)) rc_X2_beginBar ok_X2_beginBar
  · cases h; exact mvS (lv := 1) mw_X3_placeIn (by omega) (by decide) (by decide +kernel) (Or.inl (gtm 580 (by decide +kernel) (by decide +kernel))) ok_X3_placeIn
  · cases h; exact mvI (lv := 2) (ci := 2) (T := TX2) (N := 10) mw_X2_print rfl (by omega) (by decide) (by decide +kernel) (gtm 581 (by decide +kernel) (by decide +kernel)) rc_X2_print ok_X2_print
  · cases h
set_option maxRecDepth 100000 in
set_option maxHeartbeats 16000000 in
theorem ok_X2_spell : ∀ l n, 3 ≤ n → ∀ a σ Q, S_X2_spell a σ Q → AM l n yX2_spell cX2_spell 4 none a σ Q := by
  intro l n hn a σ Q hS
  unfold S_X2_spell at hS
  split at hS
  rotate_left
  · exact hS.elim
  rename_i b p
  obtain ⟨hB, hPc, hsep, hV, n1, hco, hwin, hq⟩ := hS
  obtain ⟨b0, b1, b2, b3, b4, b5, b6, b7, b8⟩ := id hB
  obtain ⟨k0, k1, k2, k3, k4, k5, k6, k7⟩ := id hPc
  unfold coOk at hco
  obtain ⟨V, hVe⟩ : ∃ V, V = vC σ p := ⟨_, rfl⟩
  rw [← hVe] at hV hq hwin hco
  obtain ⟨v0, v1, v2⟩ := vC_0 σ p
  rw [← hVe] at v0 v1 v2
  obtain ⟨o1, o2, o3, -, oc, on⟩ := id hV
  have hnc : (ncV V : Int) = σ p 1 := by unfold ncV; rw [v1]; omega
  unfold sepBP at hsep
  have pn : ∀ i, i ≤ 6 → ¬ spP b (p + i) := fun i hi => by unfold spP; omega
  have bn1 : ¬ spP b (b + 1) := by unfold spP; omega
  refine am_ofF 0 cpX2 mT_X2_spell (plainFor_of_name (by decide +kernel)) (rfl) (Nat.le_of_ble_eq_true rfl) (cpX2_ok) (mT_X2_spell_ok hn) (fun K hK => ?_)
  -- one note: j of chord c
  have step : ∀ (c j : Nat), c < ncV V → (j : Int) < V 5 c → ∀ τ, only σ τ (spP b) → τ b 0 = σ b 0 → τ b 1 = σ b 1 → τ b 2 = sgV V c j → (0 < j → ∀ t, t < 7 → τ (b + 7) t = fcV V c j t) → (j = 0 → 0 < c → ∀ t, t < 7 → τ (b + 7) t = frC V c t) → (∀ c' j' : Nat, c' < ncV V → (j' : Int) < V 5 c' → (c' < c ∨ (c' = c ∧ j' < j)) → τ (b + 2) ((V 4 c').toNat + j') = plV V c' j' ∧ τ (b + 3) ((V 4 c').toNat + j') = prV V c' j') →
      (∀ τ', only σ τ' (spP b) → τ' b 0 = σ b 0 → τ' b 1 = σ b 1 → τ' b 2 = sgV V c (j + 1) → (∀ t, t < 7 → τ' (b + 7) t = fcV V c (j + 1) t) → (∀ c' j' : Nat, c' < ncV V → (j' : Int) < V 5 c' → (c' < c ∨ (c' = c ∧ j' < j + 1)) → τ' (b + 2) ((V 4 c').toNat + j') = plV V c' j' ∧ τ' (b + 3) ((V 4 c').toNat + j') = prV V c' j') → K 7 [some (.inr (.inl b)), some (.inr (.inl p)), some (.inl (V 4 c + j + 1)), some (.inl (c : Int))] [] τ') →
      ∀ u3 : Option AV, K 7 [some (.inr (.inl b)), some (.inr (.inl p)), some (.inl (V 4 c + j)), u3] [] τ := by
    intro c j hc hj τ ho t0 t1 t2 hf1 hf0 hdone hnext u3
    obtain ⟨a1, a2, a3, a4, a5, a6, a7, a8, a9⟩ := oc c (by omega)
    obtain ⟨e1, e2, e3, e4, e5⟩ := vC_c (σ := σ) (p := p) (c := c) (by omega)
    rw [← hVe] at e1 e2 e3 e4 e5
    have hin : (V 4 c + (j : Int)).toNat = (V 4 c).toNat + j := by omega
    have hcn := hco c j (by omega) hj
    have hkn := on ((V 4 c).toNat + j) (by omega)
    have ek : V 6 ((V 4 c).toNat + j) = σ (p + 5) ((V 4 c).toNat + j) := by rw [hVe]; exact vC_n (by rw [← hVe]; omega)
    have plb := plV_b hV (c := c) (j := j) hc
    have plE : (σ (b + 1) c + (7 * σ (p + 5) ((V 4 c).toNat + j) - σ (b + 1) c) % 12) = plV V c j := by
      rw [hwin c hc, ← ek]
      rfl
    have wl := winV_lt hV (by omega) c hc
    have hw1 := hwin c hc
    have hlz := letZ_b (plV V c j)
    have haz := altZ_b plb
    have mid : ∀ τ1, only σ τ1 (spP b) → τ1 b 0 = σ b 0 → τ1 b 1 = σ b 1 → τ1 b 2 = sgV V c j → (∀ t, t < 7 → τ1 (b + 7) t = fcV V c j t) → (∀ c' j' : Nat, c' < ncV V → (j' : Int) < V 5 c' → (c' < c ∨ (c' = c ∧ j' < j)) → τ1 (b + 2) ((V 4 c').toNat + j') = plV V c' j' ∧ τ1 (b + 3) ((V 4 c').toNat + j') = prV V c' j') → K 50 [some (.inr (.inl b)), some (.inr (.inl p)), some (.inl (V 4 c + j)), some (.inl (c : Int))] [] τ1 := by
      intro τ1 ho t0 t1 t2 hf hdone
      have q5 : τ1 (p + 5) = σ (p + 5) := ho _ (pn 5 (by omega))
      have qb1 : τ1 (b + 1) = σ (b + 1) := ho _ bn1
      have fcb := fcV_b hV hc j (letZ (plV V c j)).toNat
      refine hK (fun q => q == 7 || q == 50) 100 _ _ _ _ ?_
      simp only [↓wp, ↓stp, ilen, lnth, st1, st2, nolong, nohead, rnth, ↓gfX, ↓pfX, gfV, pfV, cpF, cpP, cndZ, ↓tgo, ↓tsw, ↓lsw, ↓ldI, ↓ldA, ↓ldL, ↓stI, ↓stA, ↓stL, ↓bin, ↓binD, ↓binL, ↓binDL, ↓una, ↓acV, ↓acK, ↓acpy, ↓inv, entL, nones, List.length_cons, List.length_nil, List.take, List.drop, List.reverse_cons, List.reverse_nil, List.nil_append, List.cons_append, Option.toList_some, Option.toList_none, Nat.reduceAdd, Nat.reduceSub, Nat.reduceLT, Nat.reduceEqDiff, Fin.isValue, aTL, aSZ, Int.toNat_natCast, hset_same, hset_o, hset_s, hset_row, ne_eq, Nat.reduceBEq, beq_self_eq_true, Fin.val_zero, Fin.val_one, fin0, fin1, fin2, fin3, Nat.le_refl, Nat.reduceLeDiff, Nat.zero_le, Int.reduceAdd, Int.reduceNeg, Int.reduceLE, Int.reduceLT, Int.reduceToNat, Int.reduceMul, Int.cast_ofNat_Int, Nat.reduceMod, ↓reduceIte, if_true, if_false, and_true, true_and, or_true, true_or, false_or, or_false, and_self, not_true_eq_false, not_false_eq_true, Bool.false_eq_true, reduceCtorEq, false_implies, true_implies, implies_true, and_false, false_and, dX2_spell_0, dX2_spell_1, dX2_spell_2, dX2_spell_5, dX2_spell_6, dX2_spell_7, dX2_spell_8, dX2_spell_9, dX2_spell_12, dX2_spell_15, dX2_spell_16, dX2_spell_19, dX2_spell_20, dX2_spell_21, dX2_spell_22, dX2_spell_23, dX2_spell_24, dX2_spell_27, dX2_spell_28, dX2_spell_29, dX2_spell_32, dX2_spell_33, dX2_spell_36, dX2_spell_37, dX2_spell_38, dX2_spell_39, dX2_spell_42, dX2_spell_43, dX2_spell_44, dX2_spell_47, dX2_spell_50, dX2_spell_51, dX2_spell_54, dX2_spell_55, dX2_spell_56, dX2_spell_59, dX2_spell_60, dX2_spell_61, dX2_spell_62, dX2_spell_65, dX2_spell_66, dX2_spell_67, dX2_spell_70, dX2_spell_71, dX2_spell_72, dX2_spell_73, dX2_spell_76, dX2_spell_79, dX2_spell_82, cpX2, mT_X2_spell, SHl_0, SHl_1, SHl_2, SHl_3, SHl_4, SHl_5, SHl_6, SHl_7, SHl_8, SHl_9, SHl_10, SHl_11, SHl_12, SHl_13, SHl_14, SHl_15, SHl_16, SHl_17, SHl_18, SHl_19, SHl_20, SHl_21, SHl_22, SHl_23, SHl_24, SHl_25, SHl_26, SHl_27, SHl_28, SHl_29, SHl_30, SHl_31, SHl_32, SHl_33, SHl_34, SHl_35, SHl_36, SHl_37, SHl_38, SHl_39, SHl_40, SHl_41, SHl_42, SHl_43, SHl_44, SHl_45, SHl_46, SHl_47, SHl_48, SHl_49, SHl_50, SHl_51, SHl_52, SHl_53, SHl_54, SHl_55, SHl_56, SHl_57, S_X2_beginBar, S_X2_print, S_X3_placeIn, b0, b1, b2, b3, b4, b5, b6, b7, k0, k1, k2, k3, k4, k5, k6, Nat.add_left_cancel_iff, ne_add, ne_add', Nat.zero_lt_succ, Bool.or_true, Bool.or_false, Bool.true_or, Bool.false_or]
      rw [hin, q5, qb1, plE]
      rw [hf _ (by omega), t2]
      have hidx : ∀ c' j' : Nat, c' < ncV V → (j' : Int) < V 5 c' → (c' < c ∨ (c' = c ∧ j' < j)) → (V 4 c').toNat + j' ≠ (V 4 c).toNat + j := by
        intro c' j' h1 h2 h3
        rcases h3 with h3 | ⟨rfl, h3⟩
        · have := V4_mono hV (c - c') c' (by omega) (by omega)
          rw [show c' + (c - c') = c by omega] at this
          have := (oc c' (by omega)).2.2.2.1
          omega
        · omega
      refine ⟨by omega, by omega, by omega, by omega, by omega, by omega, by omega, by omega, by omega, by omega, by omega, by omega, hB, by omega, by omega, by omega, ?_⟩
      by_cases heq : fcV V c j (letZ (plV V c j)).toNat = altZ (plV V c j)
      · rw [if_pos heq]
        refine hnext _ (only_set (only_set ho (by unfold spP; omega)) (by unfold spP; omega)) ?_ ?_ ?_ ?_ ?_
        · rw [hset_o (by omega), hset_o (by omega)]; exact t0
        · rw [hset_o (by omega), hset_o (by omega)]; exact t1
        · rw [hset_o (by omega), hset_o (by omega), t2, sgV_s, if_pos heq]; omega
        · intro t ht
          rw [hset_o (by omega), hset_o (by omega), hf t ht, fcV_s]
          split
          · rw [← heq]
            congr 1
            omega
          · rfl
        · intro c' j' h1 h2 h3
          by_cases e : c' = c ∧ j' = j
          · obtain ⟨rfl, rfl⟩ := e
            refine ⟨by rw [hset_o (by omega), hset_same], ?_⟩
            rw [hset_same]
            unfold prV
            rw [if_pos heq]
          · have h4 : c' < c ∨ (c' = c ∧ j' < j) := by omega
            have h5 := hidx c' j' h1 h2 h4
            rw [hset_o (by omega), hset_s h5, hset_s h5, hset_o (by omega)]
            exact hdone c' j' h1 h2 h4
      · rw [if_neg heq]
        refine hnext _ (only_set (only_set (only_set (only_set ho (by unfold spP; omega)) (by unfold spP; omega)) (by unfold spP; omega)) (by unfold spP; omega)) ?_ ?_ ?_ ?_ ?_
        · rw [hset_s (by decide), hset_o (by omega), hset_o (by omega), hset_o (by omega)]; exact t0
        · rw [hset_s (by decide), hset_o (by omega), hset_o (by omega), hset_o (by omega)]; exact t1
        · rw [hset_same, sgV_s, if_neg heq]
        · intro t ht
          rw [hset_o (by omega), fcV_s]
          by_cases e : (t : Int) = letZ (plV V c j)
          · rw [if_pos e, show t = (letZ (plV V c j)).toNat by omega, hset_same]
          · rw [if_neg e, hset_s (by omega), hset_o (by omega), hset_o (by omega)]
            exact hf t ht
        · intro c' j' h1 h2 h3
          by_cases e : c' = c ∧ j' = j
          · obtain ⟨rfl, rfl⟩ := e
            refine ⟨by rw [hset_o (by omega), hset_o (by omega), hset_o (by omega), hset_same], ?_⟩
            rw [hset_o (by omega), hset_o (by omega), hset_same]
            unfold prV
            rw [if_neg heq]
          · have h4 : c' < c ∨ (c' = c ∧ j' < j) := by omega
            have h5 := hidx c' j' h1 h2 h4
            rw [hset_o (by omega), hset_o (by omega), hset_o (by omega), hset_s h5]
            rw [hset_o (q := b + 3) (by omega), hset_o (q := b + 3) (by omega), hset_s h5, hset_o (q := b + 3) (by omega)]
            exact hdone c' j' h1 h2 h4
    refine hK (fun q => q == 7 || q == 50) 100 _ _ _ _ ?_
    simp only [↓wp, ↓stp, ilen, lnth, st1, st2, nolong, nohead, rnth, ↓gfX, ↓pfX, gfV, pfV, cpF, cpP, cndZ, ↓tgo, ↓tsw, ↓lsw, ↓ldI, ↓ldA, ↓ldL, ↓stI, ↓stA, ↓stL, ↓bin, ↓binD, ↓binL, ↓binDL, ↓una, ↓acV, ↓acK, ↓acpy, ↓inv, entL, nones, List.length_cons, List.length_nil, List.take, List.drop, List.reverse_cons, List.reverse_nil, List.nil_append, List.cons_append, Option.toList_some, Option.toList_none, Nat.reduceAdd, Nat.reduceSub, Nat.reduceLT, Nat.reduceEqDiff, Fin.isValue, aTL, aSZ, Int.toNat_natCast, hset_same, hset_o, hset_s, hset_row, ne_eq, Nat.reduceBEq, beq_self_eq_true, Fin.val_zero, Fin.val_one, fin0, fin1, fin2, fin3, Nat.le_refl, Nat.reduceLeDiff, Nat.zero_le, Int.reduceAdd, Int.reduceNeg, Int.reduceLE, Int.reduceLT, Int.reduceToNat, Int.reduceMul, Int.cast_ofNat_Int, Nat.reduceMod, ↓reduceIte, if_true, if_false, and_true, true_and, or_true, true_or, false_or, or_false, and_self, not_true_eq_false, not_false_eq_true, Bool.false_eq_true, reduceCtorEq, false_implies, true_implies, implies_true, and_false, false_and, dX2_spell_0, dX2_spell_1, dX2_spell_2, dX2_spell_5, dX2_spell_6, dX2_spell_7, dX2_spell_8, dX2_spell_9, dX2_spell_12, dX2_spell_15, dX2_spell_16, dX2_spell_19, dX2_spell_20, dX2_spell_21, dX2_spell_22, dX2_spell_23, dX2_spell_24, dX2_spell_27, dX2_spell_28, dX2_spell_29, dX2_spell_32, dX2_spell_33, dX2_spell_36, dX2_spell_37, dX2_spell_38, dX2_spell_39, dX2_spell_42, dX2_spell_43, dX2_spell_44, dX2_spell_47, dX2_spell_50, dX2_spell_51, dX2_spell_54, dX2_spell_55, dX2_spell_56, dX2_spell_59, dX2_spell_60, dX2_spell_61, dX2_spell_62, dX2_spell_65, dX2_spell_66, dX2_spell_67, dX2_spell_70, dX2_spell_71, dX2_spell_72, dX2_spell_73, dX2_spell_76, dX2_spell_79, dX2_spell_82, cpX2, mT_X2_spell, SHl_0, SHl_1, SHl_2, SHl_3, SHl_4, SHl_5, SHl_6, SHl_7, SHl_8, SHl_9, SHl_10, SHl_11, SHl_12, SHl_13, SHl_14, SHl_15, SHl_16, SHl_17, SHl_18, SHl_19, SHl_20, SHl_21, SHl_22, SHl_23, SHl_24, SHl_25, SHl_26, SHl_27, SHl_28, SHl_29, SHl_30, SHl_31, SHl_32, SHl_33, SHl_34, SHl_35, SHl_36, SHl_37, SHl_38, SHl_39, SHl_40, SHl_41, SHl_42, SHl_43, SHl_44, SHl_45, SHl_46, SHl_47, SHl_48, SHl_49, SHl_50, SHl_51, SHl_52, SHl_53, SHl_54, SHl_55, SHl_56, SHl_57, S_X2_beginBar, S_X2_print, S_X3_placeIn, b0, b1, b2, b3, b4, b5, b6, b7, k0, k1, k2, k3, k4, k5, k6, Nat.add_left_cancel_iff, ne_add, ne_add', Nat.zero_lt_succ, Bool.or_true, Bool.or_false, Bool.true_or, Bool.false_or]
    have qp : τ p = σ p := ho p (pn 0 (by omega))
    have q2 : τ (p + 2) = σ (p + 2) := ho _ (pn 2 (by omega))
    have q4 : τ (p + 4) = σ (p + 4) := ho _ (pn 4 (by omega))
    have q6 : τ (p + 6) = σ (p + 6) := ho _ (pn 6 (by omega))
    rw [hin, qp, q2, q4, q6, hcn, Int.toNat_natCast, ← e4, ← e2]
    refine ⟨by omega, ⟨by omega, by omega⟩, ⟨by omega, by omega⟩, fun q => by omega, fun _ => ⟨by omega, by omega, by omega, by omega, by omega, by omega, ⟨by omega, by omega⟩, ⟨by omega, by omega⟩, fun q => ?_, fun q => ⟨by omega, by omega, by omega, ⟨by omega, by omega⟩, ⟨by omega, by omega⟩, fun r => ?_, fun r => ⟨by omega, hB, by omega, fun τ1 h1 h2 => ?_⟩⟩⟩⟩
    · exact mid τ ho t0 t1 t2 (hf1 (by omega)) hdone
    · have hj0 : j = 0 := by omega
      subst hj0
      have hc0 : 0 < c := by
        rcases Nat.eq_zero_or_pos c with h | h
        · exact absurd (a7 h).2.1 r
        · exact h
      refine mid τ ho t0 t1 t2 (fun t ht => ?_) hdone
      rw [hf0 rfl hc0 t ht]
      show _ = gF V (frC V c) c 0 t
      unfold gF
      rw [if_neg r]
    · have hj0 : j = 0 := by omega
      subst hj0
      refine mid τ1 (fun q hqq => ?_) ?_ ?_ ?_ (fun t ht => ?_) (fun c' j' g1 g2 g3 => ?_)
      · rw [h1 q (by unfold spP at hqq; omega), ho q hqq]
      · rw [h1 b (by omega)]; exact t0
      · rw [h1 b (by omega)]; exact t1
      · rw [h1 b (by omega)]; exact t2
      · rw [h2 t ht, ← v0]
        show _ = gF V (frC V c) c 0 t
        unfold gF
        rw [if_pos (by omega)]
      · rw [h1 (b + 2) (by omega), h1 (b + 3) (by omega)]
        exact hdone c' j' g1 g2 g3
  have loop : ∀ (d c j : Nat), c < ncV V → (j : Int) < V 5 c → V 4 c + j + d + 1 = V 0 2 → ∀ τ, only σ τ (spP b) → τ b 0 = σ b 0 → τ b 1 = σ b 1 → τ b 2 = sgV V c j → (0 < j → ∀ t, t < 7 → τ (b + 7) t = fcV V c j t) → (j = 0 → 0 < c → ∀ t, t < 7 → τ (b + 7) t = frC V c t) → (∀ c' j' : Nat, c' < ncV V → (j' : Int) < V 5 c' → (c' < c ∨ (c' = c ∧ j' < j)) → τ (b + 2) ((V 4 c').toNat + j') = plV V c' j' ∧ τ (b + 3) ((V 4 c').toNat + j') = prV V c' j') → ∀ u3 : Option AV, K 7 [some (.inr (.inl b)), some (.inr (.inl p)), some (.inl (V 4 c + j)), u3] [] τ := by
    intro d
    induction d with
    | zero =>
      intro c j hc hj hd τ ho t0 t1 t2 hf1 hf0 hdone u3
      refine step c j hc hj τ ho t0 t1 t2 hf1 hf0 hdone (fun τ' ho' t0' t1' t2' hf' hdone' => ?_) u3
      have ocn := oc c (by omega)
      have hlast : c + 1 = ncV V := by
        rcases Nat.lt_or_ge (c + 1) (ncV V) with h | h
        · have h1 := ocn.2.2.2.2.2.2.2.1 (by omega)
          have h2 := oc (c + 1) (by omega)
          omega
        · omega
      have h5 : (V 5 c).toNat = j + 1 := by
        have := ocn.2.2.2.2.2.2.2.2 (by omega)
        omega
      have qp : τ' p = σ p := ho' p (pn 0 (by omega))
      refine hK (fun q => q == 7 || q == 50) 100 _ _ _ _ ?_
      simp only [↓wp, ↓stp, ilen, lnth, st1, st2, nolong, nohead, rnth, ↓gfX, ↓pfX, gfV, pfV, cpF, cpP, cndZ, ↓tgo, ↓tsw, ↓lsw, ↓ldI, ↓ldA, ↓ldL, ↓stI, ↓stA, ↓stL, ↓bin, ↓binD, ↓binL, ↓binDL, ↓una, ↓acV, ↓acK, ↓acpy, ↓inv, entL, nones, List.length_cons, List.length_nil, List.take, List.drop, List.reverse_cons, List.reverse_nil, List.nil_append, List.cons_append, Option.toList_some, Option.toList_none, Nat.reduceAdd, Nat.reduceSub, Nat.reduceLT, Nat.reduceEqDiff, Fin.isValue, aTL, aSZ, Int.toNat_natCast, hset_same, hset_o, hset_s, hset_row, ne_eq, Nat.reduceBEq, beq_self_eq_true, Fin.val_zero, Fin.val_one, fin0, fin1, fin2, fin3, Nat.le_refl, Nat.reduceLeDiff, Nat.zero_le, Int.reduceAdd, Int.reduceNeg, Int.reduceLE, Int.reduceLT, Int.reduceToNat, Int.reduceMul, Int.cast_ofNat_Int, Nat.reduceMod, ↓reduceIte, if_true, if_false, and_true, true_and, or_true, true_or, false_or, or_false, and_self, not_true_eq_false, not_false_eq_true, Bool.false_eq_true, reduceCtorEq, false_implies, true_implies, implies_true, and_false, false_and, dX2_spell_0, dX2_spell_1, dX2_spell_2, dX2_spell_5, dX2_spell_6, dX2_spell_7, dX2_spell_8, dX2_spell_9, dX2_spell_12, dX2_spell_15, dX2_spell_16, dX2_spell_19, dX2_spell_20, dX2_spell_21, dX2_spell_22, dX2_spell_23, dX2_spell_24, dX2_spell_27, dX2_spell_28, dX2_spell_29, dX2_spell_32, dX2_spell_33, dX2_spell_36, dX2_spell_37, dX2_spell_38, dX2_spell_39, dX2_spell_42, dX2_spell_43, dX2_spell_44, dX2_spell_47, dX2_spell_50, dX2_spell_51, dX2_spell_54, dX2_spell_55, dX2_spell_56, dX2_spell_59, dX2_spell_60, dX2_spell_61, dX2_spell_62, dX2_spell_65, dX2_spell_66, dX2_spell_67, dX2_spell_70, dX2_spell_71, dX2_spell_72, dX2_spell_73, dX2_spell_76, dX2_spell_79, dX2_spell_82, cpX2, mT_X2_spell, SHl_0, SHl_1, SHl_2, SHl_3, SHl_4, SHl_5, SHl_6, SHl_7, SHl_8, SHl_9, SHl_10, SHl_11, SHl_12, SHl_13, SHl_14, SHl_15, SHl_16, SHl_17, SHl_18, SHl_19, SHl_20, SHl_21, SHl_22, SHl_23, SHl_24, SHl_25, SHl_26, SHl_27, SHl_28, SHl_29, SHl_30, SHl_31, SHl_32, SHl_33, SHl_34, SHl_35, SHl_36, SHl_37, SHl_38, SHl_39, SHl_40, SHl_41, SHl_42, SHl_43, SHl_44, SHl_45, SHl_46, SHl_47, SHl_48, SHl_49, SHl_50, SHl_51, SHl_52, SHl_53, SHl_54, SHl_55, SHl_56, SHl_57, S_X2_beginBar, S_X2_print, S_X3_placeIn, b0, b1, b2, b3, b4, b5, b6, b7, k0, k1, k2, k3, k4, k5, k6, Nat.add_left_cancel_iff, ne_add, ne_add', Nat.zero_lt_succ, Bool.or_true, Bool.or_false, Bool.true_or, Bool.false_or]
      rw [qp]
      refine ⟨by omega, ⟨by omega, by omega⟩, ⟨by omega, by omega⟩, fun _ => hq τ' ⟨ho', t0', t1', ?_, fun c' j' h1 h2 => hdone' c' j' h1 h2 ?_⟩, fun q => by omega⟩
      · rw [t2']
        unfold signsV
        rw [← hlast]
        show sgF V (sgC V c) c (j + 1) = sgF V (sgC V c) c (V 5 c).toNat
        rw [h5]
      · rcases Nat.lt_or_ge c' c with h | h
        · exact Or.inl h
        · have e : c' = c := by omega
          subst e
          exact Or.inr ⟨rfl, by omega⟩
    | succ d ih =>
      intro c j hc hj hd τ ho t0 t1 t2 hf1 hf0 hdone u3
      refine step c j hc hj τ ho t0 t1 t2 hf1 hf0 hdone (fun τ' ho' t0' t1' t2' hf' hdone' => ?_) u3
      have ocn := oc c (by omega)
      by_cases hmore : (j : Int) + 1 < V 5 c
      · have hh := ih c (j + 1) hc (by omega) (by omega) τ' ho' t0' t1' t2' (fun _ => hf') (fun h => by omega) hdone' (some (.inl (c : Int)))
        rw [show V 4 c + ((j + 1 : Nat) : Int) = V 4 c + j + 1 by omega] at hh
        exact hh
      · have h5 : (V 5 c).toNat = j + 1 := by omega
        have hlast : c + 1 < ncV V := by
          rcases Nat.lt_or_ge (c + 1) (ncV V) with h | h
          · exact h
          · have := ocn.2.2.2.2.2.2.2.2 (by omega)
            omega
        have h4 := ocn.2.2.2.2.2.2.2.1 (by omega)
        have oc1 := oc (c + 1) (by omega)
        have hh := ih (c + 1) 0 hlast (by omega) (by omega) τ' ho' t0' t1' (by
          rw [t2']
          show sgF V (sgC V c) c (j + 1) = sgF V (sgC V c) c (V 5 c).toNat
          rw [h5]) (fun h => by omega) (fun _ _ t ht => by
          rw [hf' t ht]
          show gF V (frC V c) c (j + 1) t = gF V (frC V c) c (V 5 c).toNat t
          rw [h5]) (fun c' j' h1 h2 h3 => hdone' c' j' h1 h2 (by
            rcases Nat.lt_or_ge c' c with h | h
            · exact Or.inl h
            · have e : c' = c := by omega
              subst e
              exact Or.inr ⟨rfl, by omega⟩)) (some (.inl (c : Int)))
        rw [show V 4 (c + 1) + ((0 : Nat) : Int) = V 4 c + j + 1 by omega] at hh
        exact hh
  refine hK (fun q => q == 7 || q == 50) 100 _ _ _ _ ?_
  simp only [↓wp, ↓stp, ilen, lnth, st1, st2, nolong, nohead, rnth, ↓gfX, ↓pfX, gfV, pfV, cpF, cpP, cndZ, ↓tgo, ↓tsw, ↓lsw, ↓ldI, ↓ldA, ↓ldL, ↓stI, ↓stA, ↓stL, ↓bin, ↓binD, ↓binL, ↓binDL, ↓una, ↓acV, ↓acK, ↓acpy, ↓inv, entL, nones, List.length_cons, List.length_nil, List.take, List.drop, List.reverse_cons, List.reverse_nil, List.nil_append, List.cons_append, Option.toList_some, Option.toList_none, Nat.reduceAdd, Nat.reduceSub, Nat.reduceLT, Nat.reduceEqDiff, Fin.isValue, aTL, aSZ, Int.toNat_natCast, hset_same, hset_o, hset_s, hset_row, ne_eq, Nat.reduceBEq, beq_self_eq_true, Fin.val_zero, Fin.val_one, fin0, fin1, fin2, fin3, Nat.le_refl, Nat.reduceLeDiff, Nat.zero_le, Int.reduceAdd, Int.reduceNeg, Int.reduceLE, Int.reduceLT, Int.reduceToNat, Int.reduceMul, Int.cast_ofNat_Int, Nat.reduceMod, ↓reduceIte, if_true, if_false, and_true, true_and, or_true, true_or, false_or, or_false, and_self, not_true_eq_false, not_false_eq_true, Bool.false_eq_true, reduceCtorEq, false_implies, true_implies, implies_true, and_false, false_and, dX2_spell_0, dX2_spell_1, dX2_spell_2, dX2_spell_5, dX2_spell_6, dX2_spell_7, dX2_spell_8, dX2_spell_9, dX2_spell_12, dX2_spell_15, dX2_spell_16, dX2_spell_19, dX2_spell_20, dX2_spell_21, dX2_spell_22, dX2_spell_23, dX2_spell_24, dX2_spell_27, dX2_spell_28, dX2_spell_29, dX2_spell_32, dX2_spell_33, dX2_spell_36, dX2_spell_37, dX2_spell_38, dX2_spell_39, dX2_spell_42, dX2_spell_43, dX2_spell_44, dX2_spell_47, dX2_spell_50, dX2_spell_51, dX2_spell_54, dX2_spell_55, dX2_spell_56, dX2_spell_59, dX2_spell_60, dX2_spell_61, dX2_spell_62, dX2_spell_65, dX2_spell_66, dX2_spell_67, dX2_spell_70, dX2_spell_71, dX2_spell_72, dX2_spell_73, dX2_spell_76, dX2_spell_79, dX2_spell_82, cpX2, mT_X2_spell, SHl_0, SHl_1, SHl_2, SHl_3, SHl_4, SHl_5, SHl_6, SHl_7, SHl_8, SHl_9, SHl_10, SHl_11, SHl_12, SHl_13, SHl_14, SHl_15, SHl_16, SHl_17, SHl_18, SHl_19, SHl_20, SHl_21, SHl_22, SHl_23, SHl_24, SHl_25, SHl_26, SHl_27, SHl_28, SHl_29, SHl_30, SHl_31, SHl_32, SHl_33, SHl_34, SHl_35, SHl_36, SHl_37, SHl_38, SHl_39, SHl_40, SHl_41, SHl_42, SHl_43, SHl_44, SHl_45, SHl_46, SHl_47, SHl_48, SHl_49, SHl_50, SHl_51, SHl_52, SHl_53, SHl_54, SHl_55, SHl_56, SHl_57, S_X2_beginBar, S_X2_print, S_X3_placeIn, b0, b1, b2, b3, b4, b5, b6, b7, k0, k1, k2, k3, k4, k5, k6, Nat.add_left_cancel_iff, ne_add, ne_add', Nat.zero_lt_succ, Bool.or_true, Bool.or_false, Bool.true_or, Bool.false_or]
  have oc0 := oc 0 (by omega)
  have h00 := (oc0.2.2.2.2.2.2.1 rfl).1
  have hh := loop ((V 0 2).toNat - 1) 0 0 (by omega) (by omega) (by omega) (hset σ b 2 0) (only_set (fun q _ => rfl) (by unfold spP; omega)) (hset_s (by decide)) (hset_s (by decide)) hset_same (fun h => by omega) (fun _ h => by omega) (fun c' j' h1 h2 h3 => by omega) none
  rw [h00] at hh
  exact ⟨by omega, hh⟩
