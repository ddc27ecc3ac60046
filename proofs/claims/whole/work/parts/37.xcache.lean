/-! ===== the class: what it keeps of BEST and HEADS; settled, findHeads ===== -/
def bestOk (σ : HP) : Prop := σ 14 0 = bestV (vC σ 7) ∧ σ 14 1 = capM (waysV (vC σ 7)) ∧ σ 14 2 = signsV (vC σ 7) ∧ (∀ c, c < ncV (vC σ 7) → σ 15 c = (winV (vC σ 7) c : Int) - 15) ∧ spNotes σ 14 (vC σ 7)
def headOk (σ : HP) : Prop := σ 0 11 = (fstN (hcV (vC σ 7)) 15 : Int) ∧ σ 0 12 = lstN (hcV (vC σ 7)) 15
def cOk (σ : HP) : Prop := (σ 0 9 = 0 ∨ σ 0 9 = 1) ∧ (σ 0 10 = 0 ∨ σ 0 10 = 1) ∧ (σ 0 9 = 0 → bestOk σ) ∧ (σ 0 10 = 0 → headOk σ)
def xP : Nat → Prop := fun q => q = 0 ∨ (14 ≤ q ∧ q ≤ 36)
def xS (σ τ : HP) : Prop := only σ τ xP ∧ (∀ j, j < 9 ∨ 12 < j → τ 0 j = σ 0 j) ∧ cOk τ
def xPre (σ : HP) : Prop := okV (vC σ 7) ∧ coOk σ 7 ∧ cOk σ
theorem xS_rf {σ : HP} (h : cOk σ) : xS σ σ := ⟨fun _ _ => rfl, fun _ _ => rfl, h⟩
theorem xS_tr {σ τ ρ : HP} (h1 : xS σ τ) (h2 : xS τ ρ) : xS σ ρ := ⟨fun q hq => (h2.1 q hq).trans (h1.1 q hq), fun j hj => (h2.2.1 j hj).trans (h1.2.1 j hj), h2.2.2⟩
theorem xP_v {σ τ : HP} (h : only σ τ xP) : vC τ 7 = vC σ 7 := vC_only h (fun i hi => by unfold xP; omega)
theorem xP_7 {σ τ : HP} (h : only σ τ xP) : τ 7 = σ 7 := h 7 (by unfold xP; omega)
theorem coOk_only {σ τ : HP} {p : Nat} {P : Nat → Prop} (h : only σ τ P) (hp : ∀ i, i ≤ 6 → ¬ P (p + i)) (hc : coOk σ p) : coOk τ p := by
  have hv := vC_only h hp
  intro c j h1 h2
  rw [hv] at h2 ⊢
  have e0 : τ p = σ p := h p (hp 0 (by omega))
  rw [e0] at h1
  rw [h _ (hp 6 (by omega))]
  exact hc c j h1 h2
theorem xPre_x {σ τ : HP} (h : xS σ τ) (hp : xPre σ) : xPre τ := ⟨by rw [xP_v h.1]; exact hp.1, coOk_only h.1 (fun i hi => by unfold xP; omega) hp.2.1, h.2.2⟩
theorem spNotes_eq {σ τ V : HP} {b : Nat} (h2 : τ (b + 2) = σ (b + 2)) (h3 : τ (b + 3) = σ (b + 3)) (h : spNotes σ b V) : spNotes τ b V := by
  unfold spNotes
  rw [h2, h3]
  exact h
/-- what touches only the trial keeps what is kept -/
theorem xS_trial {σ τ : HP} (h : only σ τ (fun q => 22 ≤ q ∧ q ≤ 36)) (hc : cOk σ) : xS σ τ := by
  have h1 : only σ τ xP := fun q hq => h q (by unfold xP at hq; omega)
  have e0 : τ 0 = σ 0 := h 0 (by omega)
  refine ⟨h1, fun j _ => by rw [e0], ?_⟩
  obtain ⟨c1, c2, c3, c4⟩ := hc
  unfold cOk bestOk headOk at *
  rw [e0, xP_v h1, h 14 (by omega), h 15 (by omega)]
  exact ⟨c1, c2, fun h9 => ⟨(c3 h9).1, (c3 h9).2.1, (c3 h9).2.2.1, (c3 h9).2.2.2.1, spNotes_eq (h 16 (by omega)) (h 17 (by omega)) (c3 h9).2.2.2.2⟩, c4⟩
def S_X7_settled : MSpec := fun a σ Q => match a with
  | [.inr (.inl 0)] => xPre σ ∧ 1 ≤ σ 7 1 ∧ ∀ τ, xS σ τ → bestOk τ → Q (some (.inr (.inl 14))) τ
  | _ => False
theorem rc_X7_settled : ∀ a σ Q, S_X7_settled a σ Q → ∃ (p : Nat) (r : List AV), a = .inr (.inl p) :: r ∧ p < 76 ∧ (SH p).1 = 4 ∧ (SH p).2.1 = 6 := by
  intro a σ Q h
  unfold S_X7_settled at h
  split at h
  · exact ⟨0, _, rfl, by decide, rfl, rfl⟩
  · exact h.elim
def mT_X7_settled (i : Nat) : Option (Nat × Bool × MSpec) := match i with
  | 279 => some (2, true, S_X2_solve)
  | 282 => some (2, true, S_X2_spell)
  | _ => none
theorem mT_X7_settled_ok {l : Launch} {n : Nat} (hn : 4 ≤ n) : ∀ i e, mT_X7_settled i = some e → mV l (rmOf n) RX7 i e := by
  intro i e h
  unfold mT_X7_settled at h
  split at h
  · cases h; exact mvI (lv := 3) (ci := 2) (T := TX2) (N := 10) mw_X2_solve rfl (by omega) (by decide) (by decide +kernel) (gtm 532 (by decide +kernel) (by decide +kernel)) rc_X2_solve ok_X2_solve
  · cases h; exact mvI (lv := 3) (ci := 2) (T := TX2) (N := 10) mw_X2_spell rfl (by omega) (by decide) (by decide +kernel) (gtm 571 (by decide +kernel) (by decide +kernel)) rc_X2_spell ok_X2_spell
  · cases h
set_option maxRecDepth 100000 in
set_option maxHeartbeats 4000000 in
theorem ok_X7_settled : ∀ l n, 4 ≤ n → ∀ a σ Q, S_X7_settled a σ Q → AM l n yX7_settled cX7_settled 1 (some (.object "SpelledTones$Best")) a σ Q := by
  intro l n hn a σ Q hS
  unfold S_X7_settled at hS
  split at hS
  rotate_left
  · exact hS.elim
  obtain ⟨⟨hV, hco, hc⟩, n1, hq⟩ := hS
  refine am_ofF 4 cpX7 mT_X7_settled (plainFor_of_name (by decide +kernel)) (⟨_, rfl⟩) (Nat.le_of_ble_eq_true rfl) (cpX7_ok) (mT_X7_settled_ok hn) (fun K hK => ?_)
  refine hK (fun _ => false) 200 _ _ _ _ ?_
  simp only [↓wp, ↓stp, ilen, lnth, st1, st2, nolong, nohead, rnth, ↓gfX, ↓pfX, gfV, pfV, cpF, cpP, cndZ, ↓tgo, ↓tsw, ↓lsw, ↓ldI, ↓ldA, ↓ldL, ↓stI, ↓stA, ↓stL, ↓bin, ↓binD, ↓binL, ↓binDL, ↓una, ↓acV, ↓acK, ↓acpy, ↓inv, entL, nones, List.length_cons, List.length_nil, List.take, List.drop, List.reverse_cons, List.reverse_nil, List.nil_append, List.cons_append, Option.toList_some, Option.toList_none, Nat.reduceAdd, Nat.reduceSub, Nat.reduceLT, Nat.reduceEqDiff, Fin.isValue, aTL, aSZ, Int.toNat_natCast, hset_same, hset_o, hset_s, hset_row, ne_eq, Nat.reduceBEq, beq_self_eq_true, Fin.val_zero, Fin.val_one, fin0, fin1, fin2, fin3, Nat.le_refl, Nat.reduceLeDiff, Nat.zero_le, Int.reduceAdd, Int.reduceNeg, Int.reduceLE, Int.reduceLT, Int.reduceToNat, Int.reduceMul, Int.cast_ofNat_Int, Nat.reduceMod, ↓reduceIte, if_true, if_false, and_true, true_and, or_true, true_or, false_or, or_false, and_self, not_true_eq_false, not_false_eq_true, Bool.false_eq_true, reduceCtorEq, false_implies, true_implies, implies_true, and_false, false_and, dX7_settled_0, dX7_settled_1, dX7_settled_4, dX7_settled_7, dX7_settled_8, dX7_settled_11, dX7_settled_12, dX7_settled_15, dX7_settled_18, dX7_settled_19, dX7_settled_22, dX7_settled_23, dX7_settled_26, dX7_settled_29, dX7_settled_30, dX7_settled_31, dX7_settled_34, dX7_settled_35, dX7_settled_38, cpX7, mT_X7_settled, SHl_0, SHl_1, SHl_2, SHl_3, SHl_4, SHl_5, SHl_6, SHl_7, SHl_8, SHl_9, SHl_10, SHl_11, SHl_12, SHl_13, SHl_14, SHl_15, SHl_16, SHl_17, SHl_18, SHl_19, SHl_20, SHl_21, SHl_22, SHl_23, SHl_24, SHl_25, SHl_26, SHl_27, SHl_28, SHl_29, SHl_30, SHl_31, SHl_32, SHl_33, SHl_34, SHl_35, SHl_36, SHl_37, SHl_38, SHl_39, SHl_40, SHl_41, SHl_42, SHl_43, SHl_44, SHl_45, SHl_46, SHl_47, SHl_48, SHl_49, SHl_50, SHl_51, SHl_52, SHl_53, SHl_54, SHl_55, SHl_56, SHl_57, S_X2_solve, S_X2_spell]
  have hc' := hc
  obtain ⟨c1, c2, c3, c4⟩ := hc'
  refine ⟨⟨by omega, by omega⟩, fun h0 => hq σ (xS_rf hc) (c3 h0), fun h1 => ⟨isBs_14, isPc_7, by unfold sepBP; omega, hV, n1, fun τ hτ => ?_⟩⟩
  obtain ⟨o, t0, t1, t2, tw⟩ := hτ
  have hp7 : ∀ i, i ≤ 6 → ¬ svP 14 (7 + i) := fun i hi => by unfold svP; omega
  have v1 : vC τ 7 = vC σ 7 := vC_only o hp7
  have e7 : τ 7 = σ 7 := o 7 (hp7 0 (by omega))
  refine ⟨isBs_14, isPc_7, by unfold sepBP; omega, by rw [v1]; exact hV, by rw [e7]; exact n1, coOk_only o hp7 hco, by rw [v1]; exact tw, fun ρ hρ => ?_⟩
  obtain ⟨o', r0, r1, r2, rn⟩ := hρ
  rw [v1] at r2 rn
  have hp7' : ∀ i, i ≤ 6 → ¬ spP 14 (7 + i) := fun i hi => by unfold spP; omega
  have v2 : vC ρ 7 = vC σ 7 := by rw [vC_only o' hp7', v1]
  have v3 : vC (hset ρ 0 9 0) 7 = vC σ 7 := by rw [vC_hset (by omega), v2]
  have hb : bestOk (hset ρ 0 9 0) := by
    unfold bestOk
    rw [v3, hset_row (q := 14) (by decide), hset_row (q := 15) (by decide)]
    refine ⟨by rw [r0]; exact t0, by rw [r1, t1, capM_min], r2, fun c hcc => ?_, spNotes_eq (hset_row (by decide)) (hset_row (by decide)) rn⟩
    rw [o' 15 (by unfold spP; omega)]
    exact tw c hcc
  have e0 : ρ 0 = σ 0 := by rw [o' 0 (by unfold spP; omega), o 0 (by unfold svP; omega)]
  refine hq _ ⟨fun q hqq => ?_, fun j hj => ?_, ?_⟩ hb
  · unfold xP at hqq
    rw [hset_row (by omega), o' q (by unfold spP; omega), o q (by unfold svP; omega)]
  · rw [hset_s (by omega), e0]
  · refine ⟨Or.inl hset_same, ?_, fun _ => hb, fun h10 => ?_⟩
    · rw [hset_s (by decide), e0]
      exact c2
    · rw [hset_s (by decide), e0] at h10
      unfold headOk
      rw [v3, hset_s (by decide), hset_s (by decide), e0]
      exact c4 h10
def S_X7_findHeads : MSpec := fun a σ Q => match a with
  | [.inr (.inl 0)] => xPre σ ∧ 1 ≤ σ 7 1 ∧ ∀ τ, xS σ τ → headOk τ → Q none τ
  | _ => False
theorem rc_X7_findHeads : ∀ a σ Q, S_X7_findHeads a σ Q → ∃ (p : Nat) (r : List AV), a = .inr (.inl p) :: r ∧ p < 76 ∧ (SH p).1 = 4 ∧ (SH p).2.1 = 6 := by
  intro a σ Q h
  unfold S_X7_findHeads at h
  split at h
  · exact ⟨0, _, rfl, by decide, rfl, rfl⟩
  · exact h.elim
def mT_X7_findHeads (i : Nat) : Option (Nat × Bool × MSpec) := match i with
  | 134 => some (2, true, S_X4_becomeLike)
  | 279 => some (2, true, S_X2_solve)
  | _ => none
theorem mT_X7_findHeads_ok {l : Launch} {n : Nat} (hn : 4 ≤ n) : ∀ i e, mT_X7_findHeads i = some e → mV l (rmOf n) RX7 i e := by
  intro i e h
  unfold mT_X7_findHeads at h
  split at h
  · cases h; exact mvI (lv := 0) (ci := 3) (T := TX4) (N := 9) mw_X4_becomeLike rfl (by omega) (by decide) (by decide +kernel) (gtm 413 (by decide +kernel) (by decide +kernel)) rc_X4_becomeLike ok_X4_becomeLike
  · cases h; exact mvI (lv := 3) (ci := 2) (T := TX2) (N := 10) mw_X2_solve rfl (by omega) (by decide) (by decide +kernel) (gtm 532 (by decide +kernel) (by decide +kernel)) rc_X2_solve ok_X2_solve
  · cases h
set_option maxRecDepth 100000 in
set_option maxHeartbeats 16000000 in
theorem ok_X7_findHeads : ∀ l n, 4 ≤ n → ∀ a σ Q, S_X7_findHeads a σ Q → AM l n yX7_findHeads cX7_findHeads 2 none a σ Q := by
  intro l n hn a σ Q hS
  unfold S_X7_findHeads at hS
  split at hS
  rotate_left
  · exact hS.elim
  obtain ⟨⟨hV, hco, hc⟩, n1, hq⟩ := hS
  obtain ⟨V, hVe⟩ : ∃ V, V = vC σ 7 := ⟨_, rfl⟩
  rw [← hVe] at hV
  obtain ⟨v0, v1, v2⟩ := vC_0 σ 7
  rw [← hVe] at v0 v1 v2
  have o2 := hV.2.1
  have hnc : 0 < ncV V := by unfold ncV; omega
  have hb := fun v (hv : v < 15) => hcV_b hV hnc hv
  have hc' := hc
  obtain ⟨c1, c2, c3, c4⟩ := hc'
  refine am_ofF 0 cpX7 mT_X7_findHeads (plainFor_of_name (by decide +kernel)) (rfl) (Nat.le_of_ble_eq_true rfl) (cpX7_ok) (mT_X7_findHeads_ok hn) (fun K hK => ?_)
  have loop : ∀ (d v : Nat), v + d = 15 → ∀ τ, only σ τ (fun q => q = 0 ∨ (22 ≤ q ∧ q ≤ 36)) → (∀ j, j ≠ 11 → j ≠ 12 → τ 0 j = σ 0 j) → τ 0 12 = lstN (hcV V) v → (0 < v → τ 0 11 = (fstN (hcV V) v : Int)) → (∃ g, vC τ 22 = hset V 0 0 g) → K 28 [some (.inr (.inl 0)), some (.inl (v : Int))] [] τ := by
    intro d
    induction d with
    | zero =>
      intro v hv τ ho h0 h12 h11 hg
      rw [show v = 15 by omega] at h11 h12
      have hh : headOk (hset τ 0 10 0) := by
        unfold headOk
        have : vC (hset τ 0 10 0) 7 = V := by rw [vC_hset (by omega), vC_only ho (fun i hi => by omega), hVe]
        rw [this, hset_s (by decide), hset_s (by decide)]
        exact ⟨h11 (by omega), h12⟩
      have hx : Q none (hset τ 0 10 0) := by
        refine hq _ ⟨fun q hqq => ?_, fun j hj => ?_, ?_⟩ hh
        · unfold xP at hqq
          rw [hset_row (by omega), ho q (by omega)]
        · rw [hset_s (by omega), h0 j (by omega) (by omega)]
        · refine ⟨?_, Or.inl hset_same, fun h9 => ?_, fun _ => hh⟩
          · rw [hset_s (by decide), h0 9 (by decide) (by decide)]
            exact c1
          · rw [hset_s (by decide), h0 9 (by decide) (by decide)] at h9
            have hB := c3 h9
            unfold bestOk at hB ⊢
            have : vC (hset τ 0 10 0) 7 = V := by rw [vC_hset (by omega), vC_only ho (fun i hi => by omega), hVe]
            rw [this, hset_row (q := 14) (by decide), hset_row (q := 15) (by decide), ho 14 (by omega), ho 15 (by omega)]
            rw [← hVe] at hB
            exact ⟨hB.1, hB.2.1, hB.2.2.1, hB.2.2.2.1, spNotes_eq (by rw [hset_row (by decide), ho 16 (by omega)]) (by rw [hset_row (by decide), ho 17 (by omega)]) hB.2.2.2.2⟩
      refine hK (fun q => q == 28) 100 _ _ _ _ ?_
      simp only [↓wp, ↓stp, ilen, lnth, st1, st2, nolong, nohead, rnth, ↓gfX, ↓pfX, gfV, pfV, cpF, cpP, cndZ, ↓tgo, ↓tsw, ↓lsw, ↓ldI, ↓ldA, ↓ldL, ↓stI, ↓stA, ↓stL, ↓bin, ↓binD, ↓binL, ↓binDL, ↓una, ↓acV, ↓acK, ↓acpy, ↓inv, entL, nones, List.length_cons, List.length_nil, List.take, List.drop, List.reverse_cons, List.reverse_nil, List.nil_append, List.cons_append, Option.toList_some, Option.toList_none, Nat.reduceAdd, Nat.reduceSub, Nat.reduceLT, Nat.reduceEqDiff, Fin.isValue, aTL, aSZ, Int.toNat_natCast, hset_same, hset_o, hset_s, hset_row, ne_eq, Nat.reduceBEq, beq_self_eq_true, Fin.val_zero, Fin.val_one, fin0, fin1, fin2, fin3, Nat.le_refl, Nat.reduceLeDiff, Nat.zero_le, Int.reduceAdd, Int.reduceNeg, Int.reduceLE, Int.reduceLT, Int.reduceToNat, Int.reduceMul, Int.cast_ofNat_Int, Nat.reduceMod, ↓reduceIte, if_true, if_false, and_true, true_and, or_true, true_or, false_or, or_false, and_self, not_true_eq_false, not_false_eq_true, Bool.false_eq_true, reduceCtorEq, false_implies, true_implies, implies_true, and_false, false_and, dX7_findHeads_0, dX7_findHeads_1, dX7_findHeads_4, dX7_findHeads_7, dX7_findHeads_8, dX7_findHeads_9, dX7_findHeads_12, dX7_findHeads_13, dX7_findHeads_16, dX7_findHeads_19, dX7_findHeads_20, dX7_findHeads_23, dX7_findHeads_26, dX7_findHeads_27, dX7_findHeads_28, dX7_findHeads_29, dX7_findHeads_31, dX7_findHeads_34, dX7_findHeads_35, dX7_findHeads_38, dX7_findHeads_39, dX7_findHeads_42, dX7_findHeads_43, dX7_findHeads_46, dX7_findHeads_47, dX7_findHeads_50, dX7_findHeads_53, dX7_findHeads_54, dX7_findHeads_57, dX7_findHeads_60, dX7_findHeads_61, dX7_findHeads_64, dX7_findHeads_67, dX7_findHeads_68, dX7_findHeads_69, dX7_findHeads_72, dX7_findHeads_75, dX7_findHeads_78, dX7_findHeads_79, dX7_findHeads_80, dX7_findHeads_83, dX7_findHeads_86, dX7_findHeads_89, dX7_findHeads_90, dX7_findHeads_91, dX7_findHeads_94, cpX7, mT_X7_findHeads, SHl_0, SHl_1, SHl_2, SHl_3, SHl_4, SHl_5, SHl_6, SHl_7, SHl_8, SHl_9, SHl_10, SHl_11, SHl_12, SHl_13, SHl_14, SHl_15, SHl_16, SHl_17, SHl_18, SHl_19, SHl_20, SHl_21, SHl_22, SHl_23, SHl_24, SHl_25, SHl_26, SHl_27, SHl_28, SHl_29, SHl_30, SHl_31, SHl_32, SHl_33, SHl_34, SHl_35, SHl_36, SHl_37, SHl_38, SHl_39, SHl_40, SHl_41, SHl_42, SHl_43, SHl_44, SHl_45, SHl_46, SHl_47, SHl_48, SHl_49, SHl_50, SHl_51, SHl_52, SHl_53, SHl_54, SHl_55, SHl_56, SHl_57, S_X2_solve, S_X4_becomeLike]
      exact ⟨⟨by omega, by omega⟩, ⟨by omega, by omega⟩, fun _ => hx, fun q => by omega⟩
    | succ d ih =>
      intro v hv τ ho h0 h12 h11 hg
      obtain ⟨g, hg⟩ := hg
      have hvt : vC (hset τ 22 0 (v : Int)) 22 = hset V 0 0 (v : Int) := by
        rw [vC_g, hg]
        funext k c
        simp only [hset_at]
        split
        · rfl
        · rfl
      have okt : okV (hset V 0 0 (v : Int)) := okV_g hV (by omega)
      obtain ⟨w0, w1, w2⟩ := vC_0 (hset τ 22 0 (v : Int)) 22
      rw [hvt, hset_s (by decide)] at w1
      have b1 := hb v (by omega)
      have lb : 0 ≤ lstN (hcV V) v ∧ lstN (hcV V) v ≤ 1000000 := by
        rcases Nat.eq_zero_or_pos v with h | h
        · subst h
          exact ⟨by show (0 : Int) ≤ 1000000; omega, by show (1000000 : Int) ≤ 1000000; omega⟩
        · have fo := fstN_ok (hcV V) v (fun b hbb => by have := hb b (by omega); omega) h
          have b2 := hb _ (show fstN (hcV V) v < 15 by omega)
          rw [fo.2.1] at b2
          omega
      refine hK (fun q => q == 28) 100 _ _ _ _ ?_
      simp only [↓wp, ↓stp, ilen, lnth, st1, st2, nolong, nohead, rnth, ↓gfX, ↓pfX, gfV, pfV, cpF, cpP, cndZ, ↓tgo, ↓tsw, ↓lsw, ↓ldI, ↓ldA, ↓ldL, ↓stI, ↓stA, ↓stL, ↓bin, ↓binD, ↓binL, ↓binDL, ↓una, ↓acV, ↓acK, ↓acpy, ↓inv, entL, nones, List.length_cons, List.length_nil, List.take, List.drop, List.reverse_cons, List.reverse_nil, List.nil_append, List.cons_append, Option.toList_some, Option.toList_none, Nat.reduceAdd, Nat.reduceSub, Nat.reduceLT, Nat.reduceEqDiff, Fin.isValue, aTL, aSZ, Int.toNat_natCast, hset_same, hset_o, hset_s, hset_row, ne_eq, Nat.reduceBEq, beq_self_eq_true, Fin.val_zero, Fin.val_one, fin0, fin1, fin2, fin3, Nat.le_refl, Nat.reduceLeDiff, Nat.zero_le, Int.reduceAdd, Int.reduceNeg, Int.reduceLE, Int.reduceLT, Int.reduceToNat, Int.reduceMul, Int.cast_ofNat_Int, Nat.reduceMod, ↓reduceIte, if_true, if_false, and_true, true_and, or_true, true_or, false_or, or_false, and_self, not_true_eq_false, not_false_eq_true, Bool.false_eq_true, reduceCtorEq, false_implies, true_implies, implies_true, and_false, false_and, dX7_findHeads_0, dX7_findHeads_1, dX7_findHeads_4, dX7_findHeads_7, dX7_findHeads_8, dX7_findHeads_9, dX7_findHeads_12, dX7_findHeads_13, dX7_findHeads_16, dX7_findHeads_19, dX7_findHeads_20, dX7_findHeads_23, dX7_findHeads_26, dX7_findHeads_27, dX7_findHeads_28, dX7_findHeads_29, dX7_findHeads_31, dX7_findHeads_34, dX7_findHeads_35, dX7_findHeads_38, dX7_findHeads_39, dX7_findHeads_42, dX7_findHeads_43, dX7_findHeads_46, dX7_findHeads_47, dX7_findHeads_50, dX7_findHeads_53, dX7_findHeads_54, dX7_findHeads_57, dX7_findHeads_60, dX7_findHeads_61, dX7_findHeads_64, dX7_findHeads_67, dX7_findHeads_68, dX7_findHeads_69, dX7_findHeads_72, dX7_findHeads_75, dX7_findHeads_78, dX7_findHeads_79, dX7_findHeads_80, dX7_findHeads_83, dX7_findHeads_86, dX7_findHeads_89, dX7_findHeads_90, dX7_findHeads_91, dX7_findHeads_94, cpX7, mT_X7_findHeads, SHl_0, SHl_1, SHl_2, SHl_3, SHl_4, SHl_5, SHl_6, SHl_7, SHl_8, SHl_9, SHl_10, SHl_11, SHl_12, SHl_13, SHl_14, SHl_15, SHl_16, SHl_17, SHl_18, SHl_19, SHl_20, SHl_21, SHl_22, SHl_23, SHl_24, SHl_25, SHl_26, SHl_27, SHl_28, SHl_29, SHl_30, SHl_31, SHl_32, SHl_33, SHl_34, SHl_35, SHl_36, SHl_37, SHl_38, SHl_39, SHl_40, SHl_41, SHl_42, SHl_43, SHl_44, SHl_45, SHl_46, SHl_47, SHl_48, SHl_49, SHl_50, SHl_51, SHl_52, SHl_53, SHl_54, SHl_55, SHl_56, SHl_57, S_X2_solve, S_X4_becomeLike]
      rw [hvt]
      refine ⟨⟨by omega, by omega⟩, ⟨by omega, by omega⟩, fun q => by omega, fun _ => ⟨isBs_29, isPc_22, by unfold sepBP; omega, okt, ?_, fun ρ hρ => ?_⟩⟩
      · rw [hset_s (by decide)] at w1
        omega
      obtain ⟨ro, r0, -⟩ := hρ
      have e0 : ρ 0 = τ 0 := by rw [ro 0 (by unfold svP; omega), hset_row (by decide)]
      have ho' : only σ ρ (fun q => q = 0 ∨ (22 ≤ q ∧ q ≤ 36)) := fun q hqq => by
        rw [ro q (by unfold svP; omega), hset_row (by omega)]
        exact ho q hqq
      have hv22 : vC ρ 22 = hset V 0 0 (v : Int) := by rw [vC_only ro (fun i hi => by unfold svP; omega), hvt]
      have rb : ρ 29 0 = hcV V v := r0
      rw [rb, e0, h12]
      refine ⟨⟨by omega, by omega⟩, ⟨by omega, by omega⟩, fun q => ?_, fun q => ?_⟩
      · refine ih (v + 1) (by omega) ρ ho' (fun j j1 j2 => by rw [e0]; exact h0 j j1 j2) ?_ (fun _ => ?_) ⟨_, hv22⟩
        · rw [e0, h12, lstN_s, if_neg (by omega)]
        · have hv0 : 0 < v := by
            rcases Nat.eq_zero_or_pos v with h | h
            · subst h
              exact absurd (show hcV V 0 < lstN (hcV V) 0 by show hcV V 0 < 1000000; omega) (by omega)
            · exact h
          rw [e0, h11 hv0, fstN_s, if_neg (by omega)]
      · have q' : hcV V v < lstN (hcV V) v := by omega
        refine ih (v + 1) (by omega) _ (only_set (only_set ho' (Or.inl rfl)) (Or.inl rfl)) (fun j j1 j2 => by rw [hset_s j1, hset_s j2, e0]; exact h0 j j1 j2) ?_ (fun _ => ?_) ⟨(v : Int), ?_⟩
        · rw [hset_s (by decide), hset_same, lstN_s, if_pos q']
        · rw [hset_same, fstN_s, if_pos q']
        · rw [vC_hset (by omega), vC_hset (by omega)]
          exact hv22
  refine hK (fun q => q == 28) 100 _ _ _ _ ?_
  simp only [↓wp, ↓stp, ilen, lnth, st1, st2, nolong, nohead, rnth, ↓gfX, ↓pfX, gfV, pfV, cpF, cpP, cndZ, ↓tgo, ↓tsw, ↓lsw, ↓ldI, ↓ldA, ↓ldL, ↓stI, ↓stA, ↓stL, ↓bin, ↓binD, ↓binL, ↓binDL, ↓una, ↓acV, ↓acK, ↓acpy, ↓inv, entL, nones, List.length_cons, List.length_nil, List.take, List.drop, List.reverse_cons, List.reverse_nil, List.nil_append, List.cons_append, Option.toList_some, Option.toList_none, Nat.reduceAdd, Nat.reduceSub, Nat.reduceLT, Nat.reduceEqDiff, Fin.isValue, aTL, aSZ, Int.toNat_natCast, hset_same, hset_o, hset_s, hset_row, ne_eq, Nat.reduceBEq, beq_self_eq_true, Fin.val_zero, Fin.val_one, fin0, fin1, fin2, fin3, Nat.le_refl, Nat.reduceLeDiff, Nat.zero_le, Int.reduceAdd, Int.reduceNeg, Int.reduceLE, Int.reduceLT, Int.reduceToNat, Int.reduceMul, Int.cast_ofNat_Int, Nat.reduceMod, ↓reduceIte, if_true, if_false, and_true, true_and, or_true, true_or, false_or, or_false, and_self, not_true_eq_false, not_false_eq_true, Bool.false_eq_true, reduceCtorEq, false_implies, true_implies, implies_true, and_false, false_and, dX7_findHeads_0, dX7_findHeads_1, dX7_findHeads_4, dX7_findHeads_7, dX7_findHeads_8, dX7_findHeads_9, dX7_findHeads_12, dX7_findHeads_13, dX7_findHeads_16, dX7_findHeads_19, dX7_findHeads_20, dX7_findHeads_23, dX7_findHeads_26, dX7_findHeads_27, dX7_findHeads_28, dX7_findHeads_29, dX7_findHeads_31, dX7_findHeads_34, dX7_findHeads_35, dX7_findHeads_38, dX7_findHeads_39, dX7_findHeads_42, dX7_findHeads_43, dX7_findHeads_46, dX7_findHeads_47, dX7_findHeads_50, dX7_findHeads_53, dX7_findHeads_54, dX7_findHeads_57, dX7_findHeads_60, dX7_findHeads_61, dX7_findHeads_64, dX7_findHeads_67, dX7_findHeads_68, dX7_findHeads_69, dX7_findHeads_72, dX7_findHeads_75, dX7_findHeads_78, dX7_findHeads_79, dX7_findHeads_80, dX7_findHeads_83, dX7_findHeads_86, dX7_findHeads_89, dX7_findHeads_90, dX7_findHeads_91, dX7_findHeads_94, cpX7, mT_X7_findHeads, SHl_0, SHl_1, SHl_2, SHl_3, SHl_4, SHl_5, SHl_6, SHl_7, SHl_8, SHl_9, SHl_10, SHl_11, SHl_12, SHl_13, SHl_14, SHl_15, SHl_16, SHl_17, SHl_18, SHl_19, SHl_20, SHl_21, SHl_22, SHl_23, SHl_24, SHl_25, SHl_26, SHl_27, SHl_28, SHl_29, SHl_30, SHl_31, SHl_32, SHl_33, SHl_34, SHl_35, SHl_36, SHl_37, SHl_38, SHl_39, SHl_40, SHl_41, SHl_42, SHl_43, SHl_44, SHl_45, SHl_46, SHl_47, SHl_48, SHl_49, SHl_50, SHl_51, SHl_52, SHl_53, SHl_54, SHl_55, SHl_56, SHl_57, S_X2_solve, S_X4_becomeLike]
  refine ⟨⟨by omega, by omega⟩, fun q => ⟨isPc_22, isPc_7, by rw [← hVe]; exact hV, fun τ h1 h2 h3 => ?_⟩, fun q => hq σ (xS_rf hc) (c4 (by omega))⟩
  rw [← hVe] at h2
  have hx := loop 15 0 (by omega) (hset τ 0 12 1000000) (only_set (fun q hqq => h1 q (by unfold inP; omega)) (Or.inl rfl)) (fun j j1 j2 => by rw [hset_s j2, h1 0 (by unfold inP; omega)]) hset_same (fun h => by omega) ⟨V 0 0, by
    rw [vC_hset (by omega), h2]
    funext k c
    simp only [hset_at]
    split
    · rename_i h; rw [h.1, h.2]
    · rfl⟩
  exact hx
