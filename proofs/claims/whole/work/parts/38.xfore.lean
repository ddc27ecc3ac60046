/-! ===== the class: what is foretold ===== -/
def S_X7_signatureOfHeads : MSpec := fun a σ Q => match a with
  | [.inr (.inl 0)] => xPre σ ∧ 1 ≤ σ 7 1 ∧ ∀ τ, xS σ τ → Q (some (.inl (fstN (hcV (vC σ 7)) 15 : Int))) τ
  | _ => False
theorem rc_X7_signatureOfHeads : ∀ a σ Q, S_X7_signatureOfHeads a σ Q → ∃ (p : Nat) (r : List AV), a = .inr (.inl p) :: r ∧ p < 76 ∧ (SH p).1 = 4 ∧ (SH p).2.1 = 6 := by
  intro a σ Q h
  unfold S_X7_signatureOfHeads at h
  split at h
  · exact ⟨0, _, rfl, by decide, rfl, rfl⟩
  · exact h.elim
def mT_X7_signatureOfHeads (i : Nat) : Option (Nat × Bool × MSpec) := match i with
  | 307 => some (1, true, S_X7_findHeads)
  | _ => none
theorem mT_X7_signatureOfHeads_ok {l : Launch} {n : Nat} (hn : 5 ≤ n) : ∀ i e, mT_X7_signatureOfHeads i = some e → mV l (rmOf n) RX7 i e := by
  intro i e h
  unfold mT_X7_signatureOfHeads at h
  split at h
  · cases h; exact mvI (lv := 4) (ci := 6) (T := TX7) (N := 15) mw_X7_findHeads rfl (by omega) (by decide) (by decide +kernel) (gtm 602 (by decide +kernel) (by decide +kernel)) rc_X7_findHeads ok_X7_findHeads
  · cases h
set_option maxRecDepth 100000 in
set_option maxHeartbeats 4000000 in
theorem ok_X7_signatureOfHeads : ∀ l n, 5 ≤ n → ∀ a σ Q, S_X7_signatureOfHeads a σ Q → AM l n yX7_signatureOfHeads cX7_signatureOfHeads 1 (some .int) a σ Q := by
  intro l n hn a σ Q hS
  unfold S_X7_signatureOfHeads at hS
  split at hS
  rotate_left
  · exact hS.elim
  obtain ⟨hp, n1, hq⟩ := hS
  refine am_ofF 1 cpX7 mT_X7_signatureOfHeads (plainFor_of_name (by decide +kernel)) (rfl) (Nat.le_of_ble_eq_true rfl) (cpX7_ok) (mT_X7_signatureOfHeads_ok hn) (fun K hK => ?_)
  refine hK (fun _ => false) 200 _ _ _ _ ?_
  simp only [↓wp, ↓stp, ilen, lnth, st1, st2, nolong, nohead, rnth, ↓gfX, ↓pfX, gfV, pfV, cpF, cpP, cndZ, ↓tgo, ↓tsw, ↓lsw, ↓ldI, ↓ldA, ↓ldL, ↓stI, ↓stA, ↓stL, ↓bin, ↓binD, ↓binL, ↓binDL, ↓una, ↓acV, ↓acK, ↓acpy, ↓inv, entL, nones, List.length_cons, List.length_nil, List.take, List.drop, List.reverse_cons, List.reverse_nil, List.nil_append, List.cons_append, Option.toList_some, Option.toList_none, Nat.reduceAdd, Nat.reduceSub, Nat.reduceLT, Nat.reduceEqDiff, Fin.isValue, aTL, aSZ, Int.toNat_natCast, hset_same, hset_o, hset_s, hset_row, ne_eq, Nat.reduceBEq, beq_self_eq_true, Fin.val_zero, Fin.val_one, fin0, fin1, fin2, fin3, Nat.le_refl, Nat.reduceLeDiff, Nat.zero_le, Int.reduceAdd, Int.reduceNeg, Int.reduceLE, Int.reduceLT, Int.reduceToNat, Int.reduceMul, Int.cast_ofNat_Int, Nat.reduceMod, ↓reduceIte, if_true, if_false, and_true, true_and, or_true, true_or, false_or, or_false, and_self, not_true_eq_false, not_false_eq_true, Bool.false_eq_true, reduceCtorEq, false_implies, true_implies, implies_true, and_false, false_and, dX7_signatureOfHeads_0, dX7_signatureOfHeads_1, dX7_signatureOfHeads_4, dX7_signatureOfHeads_5, dX7_signatureOfHeads_8, cpX7, mT_X7_signatureOfHeads, SHl_0, SHl_1, SHl_2, SHl_3, SHl_4, SHl_5, SHl_6, SHl_7, SHl_8, SHl_9, SHl_10, SHl_11, SHl_12, SHl_13, SHl_14, SHl_15, SHl_16, SHl_17, SHl_18, SHl_19, SHl_20, SHl_21, SHl_22, SHl_23, SHl_24, SHl_25, SHl_26, SHl_27, SHl_28, SHl_29, SHl_30, SHl_31, SHl_32, SHl_33, SHl_34, SHl_35, SHl_36, SHl_37, SHl_38, SHl_39, SHl_40, SHl_41, SHl_42, SHl_43, SHl_44, SHl_45, SHl_46, SHl_47, SHl_48, SHl_49, SHl_50, SHl_51, SHl_52, SHl_53, SHl_54, SHl_55, SHl_56, SHl_57, S_X7_findHeads]
  refine ⟨hp, n1, fun τ hτ hh => ?_⟩
  have := hh.1
  rw [xP_v hτ.1] at this
  rw [this]
  exact hq τ hτ
def S_X7_costOfHeads : MSpec := fun a σ Q => match a with
  | [.inr (.inl 0)] => xPre σ ∧ 1 ≤ σ 7 1 ∧ ∀ τ, xS σ τ → Q (some (.inl (lstN (hcV (vC σ 7)) 15))) τ
  | _ => False
theorem rc_X7_costOfHeads : ∀ a σ Q, S_X7_costOfHeads a σ Q → ∃ (p : Nat) (r : List AV), a = .inr (.inl p) :: r ∧ p < 76 ∧ (SH p).1 = 4 ∧ (SH p).2.1 = 6 := by
  intro a σ Q h
  unfold S_X7_costOfHeads at h
  split at h
  · exact ⟨0, _, rfl, by decide, rfl, rfl⟩
  · exact h.elim
def mT_X7_costOfHeads (i : Nat) : Option (Nat × Bool × MSpec) := match i with
  | 307 => some (1, true, S_X7_findHeads)
  | _ => none
theorem mT_X7_costOfHeads_ok {l : Launch} {n : Nat} (hn : 5 ≤ n) : ∀ i e, mT_X7_costOfHeads i = some e → mV l (rmOf n) RX7 i e := by
  intro i e h
  unfold mT_X7_costOfHeads at h
  split at h
  · cases h; exact mvI (lv := 4) (ci := 6) (T := TX7) (N := 15) mw_X7_findHeads rfl (by omega) (by decide) (by decide +kernel) (gtm 602 (by decide +kernel) (by decide +kernel)) rc_X7_findHeads ok_X7_findHeads
  · cases h
set_option maxRecDepth 100000 in
set_option maxHeartbeats 4000000 in
theorem ok_X7_costOfHeads : ∀ l n, 5 ≤ n → ∀ a σ Q, S_X7_costOfHeads a σ Q → AM l n yX7_costOfHeads cX7_costOfHeads 1 (some .int) a σ Q := by
  intro l n hn a σ Q hS
  unfold S_X7_costOfHeads at hS
  split at hS
  rotate_left
  · exact hS.elim
  obtain ⟨hp, n1, hq⟩ := hS
  refine am_ofF 1 cpX7 mT_X7_costOfHeads (plainFor_of_name (by decide +kernel)) (rfl) (Nat.le_of_ble_eq_true rfl) (cpX7_ok) (mT_X7_costOfHeads_ok hn) (fun K hK => ?_)
  refine hK (fun _ => false) 200 _ _ _ _ ?_
  simp only [↓wp, ↓stp, ilen, lnth, st1, st2, nolong, nohead, rnth, ↓gfX, ↓pfX, gfV, pfV, cpF, cpP, cndZ, ↓tgo, ↓tsw, ↓lsw, ↓ldI, ↓ldA, ↓ldL, ↓stI, ↓stA, ↓stL, ↓bin, ↓binD, ↓binL, ↓binDL, ↓una, ↓acV, ↓acK, ↓acpy, ↓inv, entL, nones, List.length_cons, List.length_nil, List.take, List.drop, List.reverse_cons, List.reverse_nil, List.nil_append, List.cons_append, Option.toList_some, Option.toList_none, Nat.reduceAdd, Nat.reduceSub, Nat.reduceLT, Nat.reduceEqDiff, Fin.isValue, aTL, aSZ, Int.toNat_natCast, hset_same, hset_o, hset_s, hset_row, ne_eq, Nat.reduceBEq, beq_self_eq_true, Fin.val_zero, Fin.val_one, fin0, fin1, fin2, fin3, Nat.le_refl, Nat.reduceLeDiff, Nat.zero_le, Int.reduceAdd, Int.reduceNeg, Int.reduceLE, Int.reduceLT, Int.reduceToNat, Int.reduceMul, Int.cast_ofNat_Int, Nat.reduceMod, ↓reduceIte, if_true, if_false, and_true, true_and, or_true, true_or, false_or, or_false, and_self, not_true_eq_false, not_false_eq_true, Bool.false_eq_true, reduceCtorEq, false_implies, true_implies, implies_true, and_false, false_and, dX7_costOfHeads_0, dX7_costOfHeads_1, dX7_costOfHeads_4, dX7_costOfHeads_5, dX7_costOfHeads_8, cpX7, mT_X7_costOfHeads, SHl_0, SHl_1, SHl_2, SHl_3, SHl_4, SHl_5, SHl_6, SHl_7, SHl_8, SHl_9, SHl_10, SHl_11, SHl_12, SHl_13, SHl_14, SHl_15, SHl_16, SHl_17, SHl_18, SHl_19, SHl_20, SHl_21, SHl_22, SHl_23, SHl_24, SHl_25, SHl_26, SHl_27, SHl_28, SHl_29, SHl_30, SHl_31, SHl_32, SHl_33, SHl_34, SHl_35, SHl_36, SHl_37, SHl_38, SHl_39, SHl_40, SHl_41, SHl_42, SHl_43, SHl_44, SHl_45, SHl_46, SHl_47, SHl_48, SHl_49, SHl_50, SHl_51, SHl_52, SHl_53, SHl_54, SHl_55, SHl_56, SHl_57, S_X7_findHeads]
  refine ⟨hp, n1, fun τ hτ hh => ?_⟩
  have := hh.2
  rw [xP_v hτ.1] at this
  rw [this]
  exact hq τ hτ
def S_X7_costOfOne : MSpec := fun a σ Q => match a with
  | [.inr (.inl 0), .inl x] => okV (vC σ 7) ∧ (-15 ≤ x ∧ x ≤ 8) ∧ Q (some (.inl (pcZ (vC σ 7) x (ncV (vC σ 7))))) σ
  | _ => False
theorem rc_X7_costOfOne : ∀ a σ Q, S_X7_costOfOne a σ Q → ∃ (p : Nat) (r : List AV), a = .inr (.inl p) :: r ∧ p < 76 ∧ (SH p).1 = 4 ∧ (SH p).2.1 = 6 := by
  intro a σ Q h
  unfold S_X7_costOfOne at h
  split at h
  · exact ⟨0, _, rfl, by decide, rfl, rfl⟩
  · exact h.elim
def mT_X7_costOfOne (i : Nat) : Option (Nat × Bool × MSpec) := match i with
  | 229 => some (3, true, S_X4_priceBy)
  | _ => none
theorem mT_X7_costOfOne_ok {l : Launch} {n : Nat} (hn : 3 ≤ n) : ∀ i e, mT_X7_costOfOne i = some e → mV l (rmOf n) RX7 i e := by
  intro i e h
  unfold mT_X7_costOfOne at h
  split at h
  · cases h; exact mvI (lv := 2) (ci := 3) (T := TX4) (N := 9) mw_X4_priceBy rfl (by omega) (by decide) (by decide +kernel) (gtm 593 (by decide +kernel) (by decide +kernel)) rc_X4_priceBy ok_X4_priceBy
  · cases h
set_option maxRecDepth 100000 in
set_option maxHeartbeats 16000000 in
theorem ok_X7_costOfOne : ∀ l n, 3 ≤ n → ∀ a σ Q, S_X7_costOfOne a σ Q → AM l n yX7_costOfOne cX7_costOfOne 4 (some .int) a σ Q := by
  intro l n hn a σ Q hS
  unfold S_X7_costOfOne at hS
  split at hS
  rotate_left
  · exact hS.elim
  rename_i x
  obtain ⟨hV, x1, hq⟩ := hS
  obtain ⟨V, hVe⟩ : ∃ V, V = vC σ 7 := ⟨_, rfl⟩
  simp only [← hVe] at hq hV
  obtain ⟨v0, v1, v2⟩ := vC_0 σ 7
  rw [← hVe] at v0 v1 v2
  have o2 := hV.2.1
  have hnc : (ncV V : Int) = σ 7 1 := by unfold ncV; omega
  refine am_ofF 1 cpX7 mT_X7_costOfOne (plainFor_of_name (by decide +kernel)) (rfl) (Nat.le_of_ble_eq_true rfl) (cpX7_ok) (mT_X7_costOfOne_ok hn) (fun K hK => ?_)
  have loop : ∀ (d c : Nat), c + d = ncV V → K 4 [some (.inr (.inl 0)), some (.inl x), some (.inl (pcZ V x c)), some (.inl (c : Int))] [] σ := by
    intro d
    induction d with
    | zero =>
      intro c hc
      refine hK (fun q => q == 4) 60 _ _ _ _ ?_
      simp only [↓wp, ↓stp, ilen, lnth, st1, st2, nolong, nohead, rnth, ↓gfX, ↓pfX, gfV, pfV, cpF, cpP, cndZ, ↓tgo, ↓tsw, ↓lsw, ↓ldI, ↓ldA, ↓ldL, ↓stI, ↓stA, ↓stL, ↓bin, ↓binD, ↓binL, ↓binDL, ↓una, ↓acV, ↓acK, ↓acpy, ↓inv, entL, nones, List.length_cons, List.length_nil, List.take, List.drop, List.reverse_cons, List.reverse_nil, List.nil_append, List.cons_append, Option.toList_some, Option.toList_none, Nat.reduceAdd, Nat.reduceSub, Nat.reduceLT, Nat.reduceEqDiff, Fin.isValue, aTL, aSZ, Int.toNat_natCast, hset_same, hset_o, hset_s, hset_row, ne_eq, Nat.reduceBEq, beq_self_eq_true, Fin.val_zero, Fin.val_one, fin0, fin1, fin2, fin3, Nat.le_refl, Nat.reduceLeDiff, Nat.zero_le, Int.reduceAdd, Int.reduceNeg, Int.reduceLE, Int.reduceLT, Int.reduceToNat, Int.reduceMul, Int.cast_ofNat_Int, Nat.reduceMod, ↓reduceIte, if_true, if_false, and_true, true_and, or_true, true_or, false_or, or_false, and_self, not_true_eq_false, not_false_eq_true, Bool.false_eq_true, reduceCtorEq, false_implies, true_implies, implies_true, and_false, false_and, dX7_costOfOne_0, dX7_costOfOne_1, dX7_costOfOne_2, dX7_costOfOne_3, dX7_costOfOne_4, dX7_costOfOne_5, dX7_costOfOne_6, dX7_costOfOne_9, dX7_costOfOne_12, dX7_costOfOne_15, dX7_costOfOne_16, dX7_costOfOne_17, dX7_costOfOne_20, dX7_costOfOne_21, dX7_costOfOne_22, dX7_costOfOne_25, dX7_costOfOne_26, dX7_costOfOne_27, dX7_costOfOne_30, dX7_costOfOne_33, dX7_costOfOne_34, cpX7, mT_X7_costOfOne, SHl_0, SHl_1, SHl_2, SHl_3, SHl_4, SHl_5, SHl_6, SHl_7, SHl_8, SHl_9, SHl_10, SHl_11, SHl_12, SHl_13, SHl_14, SHl_15, SHl_16, SHl_17, SHl_18, SHl_19, SHl_20, SHl_21, SHl_22, SHl_23, SHl_24, SHl_25, SHl_26, SHl_27, SHl_28, SHl_29, SHl_30, SHl_31, SHl_32, SHl_33, SHl_34, SHl_35, SHl_36, SHl_37, SHl_38, SHl_39, SHl_40, SHl_41, SHl_42, SHl_43, SHl_44, SHl_45, SHl_46, SHl_47, SHl_48, SHl_49, SHl_50, SHl_51, SHl_52, SHl_53, SHl_54, SHl_55, SHl_56, SHl_57, S_X4_priceBy]
      rw [show ncV V = c by omega] at hq
      exact ⟨⟨by omega, by omega⟩, ⟨by omega, by omega⟩, fun _ => hq, fun q => by omega⟩
    | succ d ih =>
      intro c hc
      have hx := ih (c + 1) (by omega)
      refine hK (fun q => q == 4) 60 _ _ _ _ ?_
      simp only [↓wp, ↓stp, ilen, lnth, st1, st2, nolong, nohead, rnth, ↓gfX, ↓pfX, gfV, pfV, cpF, cpP, cndZ, ↓tgo, ↓tsw, ↓lsw, ↓ldI, ↓ldA, ↓ldL, ↓stI, ↓stA, ↓stL, ↓bin, ↓binD, ↓binL, ↓binDL, ↓una, ↓acV, ↓acK, ↓acpy, ↓inv, entL, nones, List.length_cons, List.length_nil, List.take, List.drop, List.reverse_cons, List.reverse_nil, List.nil_append, List.cons_append, Option.toList_some, Option.toList_none, Nat.reduceAdd, Nat.reduceSub, Nat.reduceLT, Nat.reduceEqDiff, Fin.isValue, aTL, aSZ, Int.toNat_natCast, hset_same, hset_o, hset_s, hset_row, ne_eq, Nat.reduceBEq, beq_self_eq_true, Fin.val_zero, Fin.val_one, fin0, fin1, fin2, fin3, Nat.le_refl, Nat.reduceLeDiff, Nat.zero_le, Int.reduceAdd, Int.reduceNeg, Int.reduceLE, Int.reduceLT, Int.reduceToNat, Int.reduceMul, Int.cast_ofNat_Int, Nat.reduceMod, ↓reduceIte, if_true, if_false, and_true, true_and, or_true, true_or, false_or, or_false, and_self, not_true_eq_false, not_false_eq_true, Bool.false_eq_true, reduceCtorEq, false_implies, true_implies, implies_true, and_false, false_and, dX7_costOfOne_0, dX7_costOfOne_1, dX7_costOfOne_2, dX7_costOfOne_3, dX7_costOfOne_4, dX7_costOfOne_5, dX7_costOfOne_6, dX7_costOfOne_9, dX7_costOfOne_12, dX7_costOfOne_15, dX7_costOfOne_16, dX7_costOfOne_17, dX7_costOfOne_20, dX7_costOfOne_21, dX7_costOfOne_22, dX7_costOfOne_25, dX7_costOfOne_26, dX7_costOfOne_27, dX7_costOfOne_30, dX7_costOfOne_33, dX7_costOfOne_34, cpX7, mT_X7_costOfOne, SHl_0, SHl_1, SHl_2, SHl_3, SHl_4, SHl_5, SHl_6, SHl_7, SHl_8, SHl_9, SHl_10, SHl_11, SHl_12, SHl_13, SHl_14, SHl_15, SHl_16, SHl_17, SHl_18, SHl_19, SHl_20, SHl_21, SHl_22, SHl_23, SHl_24, SHl_25, SHl_26, SHl_27, SHl_28, SHl_29, SHl_30, SHl_31, SHl_32, SHl_33, SHl_34, SHl_35, SHl_36, SHl_37, SHl_38, SHl_39, SHl_40, SHl_41, SHl_42, SHl_43, SHl_44, SHl_45, SHl_46, SHl_47, SHl_48, SHl_49, SHl_50, SHl_51, SHl_52, SHl_53, SHl_54, SHl_55, SHl_56, SHl_57, S_X4_priceBy, ← hVe]
      exact ⟨⟨by omega, by omega⟩, ⟨by omega, by omega⟩, fun q => by omega, fun _ => ⟨isPc_7, hV, by omega, x1, hx⟩⟩
  refine hK (fun q => q == 4) 60 _ _ _ _ ?_
  simp only [↓wp, ↓stp, ilen, lnth, st1, st2, nolong, nohead, rnth, ↓gfX, ↓pfX, gfV, pfV, cpF, cpP, cndZ, ↓tgo, ↓tsw, ↓lsw, ↓ldI, ↓ldA, ↓ldL, ↓stI, ↓stA, ↓stL, ↓bin, ↓binD, ↓binL, ↓binDL, ↓una, ↓acV, ↓acK, ↓acpy, ↓inv, entL, nones, List.length_cons, List.length_nil, List.take, List.drop, List.reverse_cons, List.reverse_nil, List.nil_append, List.cons_append, Option.toList_some, Option.toList_none, Nat.reduceAdd, Nat.reduceSub, Nat.reduceLT, Nat.reduceEqDiff, Fin.isValue, aTL, aSZ, Int.toNat_natCast, hset_same, hset_o, hset_s, hset_row, ne_eq, Nat.reduceBEq, beq_self_eq_true, Fin.val_zero, Fin.val_one, fin0, fin1, fin2, fin3, Nat.le_refl, Nat.reduceLeDiff, Nat.zero_le, Int.reduceAdd, Int.reduceNeg, Int.reduceLE, Int.reduceLT, Int.reduceToNat, Int.reduceMul, Int.cast_ofNat_Int, Nat.reduceMod, ↓reduceIte, if_true, if_false, and_true, true_and, or_true, true_or, false_or, or_false, and_self, not_true_eq_false, not_false_eq_true, Bool.false_eq_true, reduceCtorEq, false_implies, true_implies, implies_true, and_false, false_and, dX7_costOfOne_0, dX7_costOfOne_1, dX7_costOfOne_2, dX7_costOfOne_3, dX7_costOfOne_4, dX7_costOfOne_5, dX7_costOfOne_6, dX7_costOfOne_9, dX7_costOfOne_12, dX7_costOfOne_15, dX7_costOfOne_16, dX7_costOfOne_17, dX7_costOfOne_20, dX7_costOfOne_21, dX7_costOfOne_22, dX7_costOfOne_25, dX7_costOfOne_26, dX7_costOfOne_27, dX7_costOfOne_30, dX7_costOfOne_33, dX7_costOfOne_34, cpX7, mT_X7_costOfOne, SHl_0, SHl_1, SHl_2, SHl_3, SHl_4, SHl_5, SHl_6, SHl_7, SHl_8, SHl_9, SHl_10, SHl_11, SHl_12, SHl_13, SHl_14, SHl_15, SHl_16, SHl_17, SHl_18, SHl_19, SHl_20, SHl_21, SHl_22, SHl_23, SHl_24, SHl_25, SHl_26, SHl_27, SHl_28, SHl_29, SHl_30, SHl_31, SHl_32, SHl_33, SHl_34, SHl_35, SHl_36, SHl_37, SHl_38, SHl_39, SHl_40, SHl_41, SHl_42, SHl_43, SHl_44, SHl_45, SHl_46, SHl_47, SHl_48, SHl_49, SHl_50, SHl_51, SHl_52, SHl_53, SHl_54, SHl_55, SHl_56, SHl_57, S_X4_priceBy]
  exact loop (ncV V) 0 (by omega)
def S_X7_cheapestOne : MSpec := fun a σ Q => match a with
  | [.inr (.inl 0)] => okV (vC σ 7) ∧ Q (some (.inl ((fstN (plZ (vC σ 7)) 24 : Int) - 15))) σ
  | _ => False
theorem rc_X7_cheapestOne : ∀ a σ Q, S_X7_cheapestOne a σ Q → ∃ (p : Nat) (r : List AV), a = .inr (.inl p) :: r ∧ p < 76 ∧ (SH p).1 = 4 ∧ (SH p).2.1 = 6 := by
  intro a σ Q h
  unfold S_X7_cheapestOne at h
  split at h
  · exact ⟨0, _, rfl, by decide, rfl, rfl⟩
  · exact h.elim
def mT_X7_cheapestOne (i : Nat) : Option (Nat × Bool × MSpec) := match i with
  | 257 => some (2, true, S_X7_costOfOne)
  | _ => none
theorem mT_X7_cheapestOne_ok {l : Launch} {n : Nat} (hn : 4 ≤ n) : ∀ i e, mT_X7_cheapestOne i = some e → mV l (rmOf n) RX7 i e := by
  intro i e h
  unfold mT_X7_cheapestOne at h
  split at h
  · cases h; exact mvI (lv := 3) (ci := 6) (T := TX7) (N := 15) mw_X7_costOfOne rfl (by omega) (by decide) (by decide +kernel) (gtm 615 (by decide +kernel) (by decide +kernel)) rc_X7_costOfOne ok_X7_costOfOne
  · cases h
set_option maxRecDepth 100000 in
set_option maxHeartbeats 16000000 in
theorem ok_X7_cheapestOne : ∀ l n, 4 ≤ n → ∀ a σ Q, S_X7_cheapestOne a σ Q → AM l n yX7_cheapestOne cX7_cheapestOne 5 (some .int) a σ Q := by
  intro l n hn a σ Q hS
  unfold S_X7_cheapestOne at hS
  split at hS
  rotate_left
  · exact hS.elim
  obtain ⟨hV, hq⟩ := hS
  obtain ⟨V, hVe⟩ : ∃ V, V = vC σ 7 := ⟨_, rfl⟩
  simp only [← hVe] at hq hV
  have hb := fun v (hv : v < 24) => plZ_b hV hv
  refine am_ofF 1 cpX7 mT_X7_cheapestOne (plainFor_of_name (by decide +kernel)) (rfl) (Nat.le_of_ble_eq_true rfl) (cpX7_ok) (mT_X7_cheapestOne_ok hn) (fun K hK => ?_)
  have loop : ∀ (d t : Nat), t + d = 24 → 0 < t → ∀ u4 : Option AV, K 13 [some (.inr (.inl 0)), some (.inl ((fstN (plZ V) t : Int) - 15)), some (.inl (lstN (plZ V) t)), some (.inl ((t : Int) - 15)), u4] [] σ := by
    intro d
    induction d with
    | zero =>
      intro t ht h0 u4
      refine hK (fun q => q == 13) 60 _ _ _ _ ?_
      simp only [↓wp, ↓stp, ilen, lnth, st1, st2, nolong, nohead, rnth, ↓gfX, ↓pfX, gfV, pfV, cpF, cpP, cndZ, ↓tgo, ↓tsw, ↓lsw, ↓ldI, ↓ldA, ↓ldL, ↓stI, ↓stA, ↓stL, ↓bin, ↓binD, ↓binL, ↓binDL, ↓una, ↓acV, ↓acK, ↓acpy, ↓inv, entL, nones, List.length_cons, List.length_nil, List.take, List.drop, List.reverse_cons, List.reverse_nil, List.nil_append, List.cons_append, Option.toList_some, Option.toList_none, Nat.reduceAdd, Nat.reduceSub, Nat.reduceLT, Nat.reduceEqDiff, Fin.isValue, aTL, aSZ, Int.toNat_natCast, hset_same, hset_o, hset_s, hset_row, ne_eq, Nat.reduceBEq, beq_self_eq_true, Fin.val_zero, Fin.val_one, fin0, fin1, fin2, fin3, Nat.le_refl, Nat.reduceLeDiff, Nat.zero_le, Int.reduceAdd, Int.reduceNeg, Int.reduceLE, Int.reduceLT, Int.reduceToNat, Int.reduceMul, Int.cast_ofNat_Int, Nat.reduceMod, ↓reduceIte, if_true, if_false, and_true, true_and, or_true, true_or, false_or, or_false, and_self, not_true_eq_false, not_false_eq_true, Bool.false_eq_true, reduceCtorEq, false_implies, true_implies, implies_true, and_false, false_and, dX7_cheapestOne_0, dX7_cheapestOne_2, dX7_cheapestOne_3, dX7_cheapestOne_4, dX7_cheapestOne_6, dX7_cheapestOne_9, dX7_cheapestOne_10, dX7_cheapestOne_12, dX7_cheapestOne_13, dX7_cheapestOne_14, dX7_cheapestOne_16, dX7_cheapestOne_19, dX7_cheapestOne_20, dX7_cheapestOne_21, dX7_cheapestOne_24, dX7_cheapestOne_26, dX7_cheapestOne_28, dX7_cheapestOne_29, dX7_cheapestOne_32, dX7_cheapestOne_34, dX7_cheapestOne_35, dX7_cheapestOne_36, dX7_cheapestOne_37, dX7_cheapestOne_40, dX7_cheapestOne_43, dX7_cheapestOne_44, cpX7, mT_X7_cheapestOne, SHl_0, SHl_1, SHl_2, SHl_3, SHl_4, SHl_5, SHl_6, SHl_7, SHl_8, SHl_9, SHl_10, SHl_11, SHl_12, SHl_13, SHl_14, SHl_15, SHl_16, SHl_17, SHl_18, SHl_19, SHl_20, SHl_21, SHl_22, SHl_23, SHl_24, SHl_25, SHl_26, SHl_27, SHl_28, SHl_29, SHl_30, SHl_31, SHl_32, SHl_33, SHl_34, SHl_35, SHl_36, SHl_37, SHl_38, SHl_39, SHl_40, SHl_41, SHl_42, SHl_43, SHl_44, SHl_45, SHl_46, SHl_47, SHl_48, SHl_49, SHl_50, SHl_51, SHl_52, SHl_53, SHl_54, SHl_55, SHl_56, SHl_57, S_X7_costOfOne]
      rw [show 24 = t by omega] at hq
      exact ⟨⟨by omega, by omega⟩, ⟨by omega, by omega⟩, fun _ => hq, fun q => by omega⟩
    | succ d ih =>
      intro t ht h0 u4
      have hx := ih (t + 1) (by omega) (by omega)
      rw [show ((t + 1 : Nat) : Int) - 15 = (t : Int) - 15 + 1 by omega] at hx
      have fo := fstN_ok (plZ V) t (fun b hbb => by have := hb b (by omega); omega) h0
      have b1 := hb t (by omega)
      have b2 := hb (fstN (plZ V) t) (by omega)
      rw [fo.2.1] at b2
      have hA : pcZ V ((t : Int) - 15) (ncV V) = plZ V t := rfl
      refine hK (fun q => q == 13) 60 _ _ _ _ ?_
      simp only [↓wp, ↓stp, ilen, lnth, st1, st2, nolong, nohead, rnth, ↓gfX, ↓pfX, gfV, pfV, cpF, cpP, cndZ, ↓tgo, ↓tsw, ↓lsw, ↓ldI, ↓ldA, ↓ldL, ↓stI, ↓stA, ↓stL, ↓bin, ↓binD, ↓binL, ↓binDL, ↓una, ↓acV, ↓acK, ↓acpy, ↓inv, entL, nones, List.length_cons, List.length_nil, List.take, List.drop, List.reverse_cons, List.reverse_nil, List.nil_append, List.cons_append, Option.toList_some, Option.toList_none, Nat.reduceAdd, Nat.reduceSub, Nat.reduceLT, Nat.reduceEqDiff, Fin.isValue, aTL, aSZ, Int.toNat_natCast, hset_same, hset_o, hset_s, hset_row, ne_eq, Nat.reduceBEq, beq_self_eq_true, Fin.val_zero, Fin.val_one, fin0, fin1, fin2, fin3, Nat.le_refl, Nat.reduceLeDiff, Nat.zero_le, Int.reduceAdd, Int.reduceNeg, Int.reduceLE, Int.reduceLT, Int.reduceToNat, Int.reduceMul, Int.cast_ofNat_Int, Nat.reduceMod, ↓reduceIte, if_true, if_false, and_true, true_and, or_true, true_or, false_or, or_false, and_self, not_true_eq_false, not_false_eq_true, Bool.false_eq_true, reduceCtorEq, false_implies, true_implies, implies_true, and_false, false_and, dX7_cheapestOne_0, dX7_cheapestOne_2, dX7_cheapestOne_3, dX7_cheapestOne_4, dX7_cheapestOne_6, dX7_cheapestOne_9, dX7_cheapestOne_10, dX7_cheapestOne_12, dX7_cheapestOne_13, dX7_cheapestOne_14, dX7_cheapestOne_16, dX7_cheapestOne_19, dX7_cheapestOne_20, dX7_cheapestOne_21, dX7_cheapestOne_24, dX7_cheapestOne_26, dX7_cheapestOne_28, dX7_cheapestOne_29, dX7_cheapestOne_32, dX7_cheapestOne_34, dX7_cheapestOne_35, dX7_cheapestOne_36, dX7_cheapestOne_37, dX7_cheapestOne_40, dX7_cheapestOne_43, dX7_cheapestOne_44, cpX7, mT_X7_cheapestOne, SHl_0, SHl_1, SHl_2, SHl_3, SHl_4, SHl_5, SHl_6, SHl_7, SHl_8, SHl_9, SHl_10, SHl_11, SHl_12, SHl_13, SHl_14, SHl_15, SHl_16, SHl_17, SHl_18, SHl_19, SHl_20, SHl_21, SHl_22, SHl_23, SHl_24, SHl_25, SHl_26, SHl_27, SHl_28, SHl_29, SHl_30, SHl_31, SHl_32, SHl_33, SHl_34, SHl_35, SHl_36, SHl_37, SHl_38, SHl_39, SHl_40, SHl_41, SHl_42, SHl_43, SHl_44, SHl_45, SHl_46, SHl_47, SHl_48, SHl_49, SHl_50, SHl_51, SHl_52, SHl_53, SHl_54, SHl_55, SHl_56, SHl_57, S_X7_costOfOne, ← hVe, hA]
      rw [fstN_s, lstN_s] at hx
      by_cases e : plZ V t < lstN (plZ V) t
      · rw [if_pos e, if_pos e] at hx
        (repeat' (first | exact hV | apply And.intro | intro _)) <;> first | omega | exact hx _
      · rw [if_neg e, if_neg e] at hx
        (repeat' (first | exact hV | apply And.intro | intro _)) <;> first | omega | exact hx _
  have hx := loop 23 1 (by omega) (by omega)
  have b0 := hb 0 (by omega)
  have e1 : fstN (plZ V) 1 = 0 := by simp [fstN]
  have e2 : lstN (plZ V) 1 = plZ V 0 := by
    rw [lstN_s]
    exact if_pos (show plZ V 0 < 1000000 by omega)
  rw [e1, e2] at hx
  refine hK (fun q => q == 13) 60 _ _ _ _ ?_
  simp only [↓wp, ↓stp, ilen, lnth, st1, st2, nolong, nohead, rnth, ↓gfX, ↓pfX, gfV, pfV, cpF, cpP, cndZ, ↓tgo, ↓tsw, ↓lsw, ↓ldI, ↓ldA, ↓ldL, ↓stI, ↓stA, ↓stL, ↓bin, ↓binD, ↓binL, ↓binDL, ↓una, ↓acV, ↓acK, ↓acpy, ↓inv, entL, nones, List.length_cons, List.length_nil, List.take, List.drop, List.reverse_cons, List.reverse_nil, List.nil_append, List.cons_append, Option.toList_some, Option.toList_none, Nat.reduceAdd, Nat.reduceSub, Nat.reduceLT, Nat.reduceEqDiff, Fin.isValue, aTL, aSZ, Int.toNat_natCast, hset_same, hset_o, hset_s, hset_row, ne_eq, Nat.reduceBEq, beq_self_eq_true, Fin.val_zero, Fin.val_one, fin0, fin1, fin2, fin3, Nat.le_refl, Nat.reduceLeDiff, Nat.zero_le, Int.reduceAdd, Int.reduceNeg, Int.reduceLE, Int.reduceLT, Int.reduceToNat, Int.reduceMul, Int.cast_ofNat_Int, Nat.reduceMod, ↓reduceIte, if_true, if_false, and_true, true_and, or_true, true_or, false_or, or_false, and_self, not_true_eq_false, not_false_eq_true, Bool.false_eq_true, reduceCtorEq, false_implies, true_implies, implies_true, and_false, false_and, dX7_cheapestOne_0, dX7_cheapestOne_2, dX7_cheapestOne_3, dX7_cheapestOne_4, dX7_cheapestOne_6, dX7_cheapestOne_9, dX7_cheapestOne_10, dX7_cheapestOne_12, dX7_cheapestOne_13, dX7_cheapestOne_14, dX7_cheapestOne_16, dX7_cheapestOne_19, dX7_cheapestOne_20, dX7_cheapestOne_21, dX7_cheapestOne_24, dX7_cheapestOne_26, dX7_cheapestOne_28, dX7_cheapestOne_29, dX7_cheapestOne_32, dX7_cheapestOne_34, dX7_cheapestOne_35, dX7_cheapestOne_36, dX7_cheapestOne_37, dX7_cheapestOne_40, dX7_cheapestOne_43, dX7_cheapestOne_44, cpX7, mT_X7_cheapestOne, SHl_0, SHl_1, SHl_2, SHl_3, SHl_4, SHl_5, SHl_6, SHl_7, SHl_8, SHl_9, SHl_10, SHl_11, SHl_12, SHl_13, SHl_14, SHl_15, SHl_16, SHl_17, SHl_18, SHl_19, SHl_20, SHl_21, SHl_22, SHl_23, SHl_24, SHl_25, SHl_26, SHl_27, SHl_28, SHl_29, SHl_30, SHl_31, SHl_32, SHl_33, SHl_34, SHl_35, SHl_36, SHl_37, SHl_38, SHl_39, SHl_40, SHl_41, SHl_42, SHl_43, SHl_44, SHl_45, SHl_46, SHl_47, SHl_48, SHl_49, SHl_50, SHl_51, SHl_52, SHl_53, SHl_54, SHl_55, SHl_56, SHl_57, S_X7_costOfOne, ← hVe]
  exact ⟨hV, hx _⟩
def S_X7_costOfItems : MSpec := fun a σ Q => match a with
  | [.inr (.inl 0), .inl r, .inl i] => okV (vC σ 7) ∧ (0 ≤ r ∧ r < 8) ∧ (0 ≤ i ∧ i + σ 7 1 ≤ 40) ∧ (∀ j, R32 (σ 2 j)) ∧ Q (some (.inl (czZ (vC σ 7) (fun k => σ 2 ((40 * r + i).toNat + k)) (ncV (vC σ 7)) 0 0))) σ
  | _ => False
theorem rc_X7_costOfItems : ∀ a σ Q, S_X7_costOfItems a σ Q → ∃ (p : Nat) (r : List AV), a = .inr (.inl p) :: r ∧ p < 76 ∧ (SH p).1 = 4 ∧ (SH p).2.1 = 6 := by
  intro a σ Q h
  unfold S_X7_costOfItems at h
  split at h
  · exact ⟨0, _, rfl, by decide, rfl, rfl⟩
  · exact h.elim
def mT_X7_costOfItems (i : Nat) : Option (Nat × Bool × MSpec) := match i with
  | 197 => some (1, false, S_X7_isWindow)
  | 229 => some (3, true, S_X4_priceBy)
  | 310 => some (3, true, S_X5_itemOf)
  | 313 => some (2, true, S_X4_staysWithin)
  | 316 => some (4, true, S_X4_priceOfStep)
  | _ => none
theorem mT_X7_costOfItems_ok {l : Launch} {n : Nat} (hn : 3 ≤ n) : ∀ i e, mT_X7_costOfItems i = some e → mV l (rmOf n) RX7 i e := by
  intro i e h
  unfold mT_X7_costOfItems at h
  split at h
  · cases h; exact mvS (lv := 0) mw_X7_isWindow (by omega) (by decide) (by decide +kernel) (Or.inl (gtm 511 (by decide +kernel) (by decide +kernel))) ok_X7_isWindow
  · cases h; exact mvI (lv := 2) (ci := 3) (T := TX4) (N := 9) mw_X4_priceBy rfl (by omega) (by decide) (by decide +kernel) (gtm 593 (by decide +kernel) (by decide +kernel)) rc_X4_priceBy ok_X4_priceBy
  · cases h; exact mvI (lv := 0) (ci := 4) (T := TX5) (N := 3) mw_X5_itemOf rfl (by omega) (by decide) (by decide +kernel) (gtm 631 (by decide +kernel) (by decide +kernel)) rc_X5_itemOf ok_X5_itemOf
  · cases h; exact mvI (lv := 0) (ci := 3) (T := TX4) (N := 9) mw_X4_staysWithin rfl (by omega) (by decide) (by decide +kernel) (gtm 636 (by decide +kernel) (by decide +kernel)) rc_X4_staysWithin ok_X4_staysWithin
  · cases h; exact mvI (lv := 1) (ci := 3) (T := TX4) (N := 9) mw_X4_priceOfStep rfl (by omega) (by decide) (by decide +kernel) (gtm 637 (by decide +kernel) (by decide +kernel)) rc_X4_priceOfStep ok_X4_priceOfStep
  · cases h
set_option maxRecDepth 100000 in
set_option maxHeartbeats 16000000 in
theorem ok_X7_costOfItems : ∀ l n, 3 ≤ n → ∀ a σ Q, S_X7_costOfItems a σ Q → AM l n yX7_costOfItems cX7_costOfItems 7 (some .int) a σ Q := by
  intro l n hn a σ Q hS
  unfold S_X7_costOfItems at hS
  split at hS
  rotate_left
  · exact hS.elim
  rename_i r i
  obtain ⟨hV, r1, i1, hJ, hq⟩ := hS
  obtain ⟨V, hVe⟩ : ∃ V, V = vC σ 7 := ⟨_, rfl⟩
  simp only [← hVe] at hq hV
  obtain ⟨v0, v1, v2⟩ := vC_0 σ 7
  rw [← hVe] at v0 v1 v2
  obtain ⟨o1, o2, o3, -, oc, on⟩ := id hV
  have hnc : (ncV V : Int) = σ 7 1 := by unfold ncV; omega
  generalize hf : (fun k => σ 2 ((40 * r + i).toNat + k)) = f at hq
  have hfk : ∀ k : Nat, σ 2 (r * 40 + (i + (k : Int))).toNat = f k := fun k => by
    rw [← hf]
    show _ = σ 2 ((40 * r + i).toNat + k)
    congr 1
    omega
  have hfk1 : ∀ k : Nat, 0 < k → σ 2 (r * 40 + (i + (k : Int) - 1)).toNat = f (k - 1) := fun k hk => by
    rw [← hf]
    show _ = σ 2 ((40 * r + i).toNat + (k - 1))
    congr 1
    omega
  have hfR : ∀ k, R32 (f k) := fun k => by rw [← hf]; exact hJ _
  refine am_ofF 1 cpX7 mT_X7_costOfItems (plainFor_of_name (by decide +kernel)) (rfl) (Nat.le_of_ble_eq_true rfl) (cpX7_ok) (mT_X7_costOfItems_ok hn) (fun K hK => ?_)
  have loop : ∀ (d k : Nat) (s : Int), k + d = ncV V → (0 < k → -15 ≤ f (k - 1) ∧ f (k - 1) ≤ 8) → Q (some (.inl (czZ V f d k s))) σ → ∀ u5 u6 : Option AV, K 5 [some (.inr (.inl 0)), some (.inl r), some (.inl i), some (.inl s), some (.inl (k : Int)), u5, u6] [] σ := by
    intro d
    induction d with
    | zero =>
      intro k s hk hp hz u5 u6
      refine hK (fun q => q == 5) 100 _ _ _ _ ?_
      simp only [↓wp, ↓stp, ilen, lnth, st1, st2, nolong, nohead, rnth, ↓gfX, ↓pfX, gfV, pfV, cpF, cpP, cndZ, ↓tgo, ↓tsw, ↓lsw, ↓ldI, ↓ldA, ↓ldL, ↓stI, ↓stA, ↓stL, ↓bin, ↓binD, ↓binL, ↓binDL, ↓una, ↓acV, ↓acK, ↓acpy, ↓inv, entL, nones, List.length_cons, List.length_nil, List.take, List.drop, List.reverse_cons, List.reverse_nil, List.nil_append, List.cons_append, Option.toList_some, Option.toList_none, Nat.reduceAdd, Nat.reduceSub, Nat.reduceLT, Nat.reduceEqDiff, Fin.isValue, aTL, aSZ, Int.toNat_natCast, hset_same, hset_o, hset_s, hset_row, ne_eq, Nat.reduceBEq, beq_self_eq_true, Fin.val_zero, Fin.val_one, fin0, fin1, fin2, fin3, Nat.le_refl, Nat.reduceLeDiff, Nat.zero_le, Int.reduceAdd, Int.reduceNeg, Int.reduceLE, Int.reduceLT, Int.reduceToNat, Int.reduceMul, Int.cast_ofNat_Int, Nat.reduceMod, ↓reduceIte, if_true, if_false, and_true, true_and, or_true, true_or, false_or, or_false, and_self, not_true_eq_false, not_false_eq_true, Bool.false_eq_true, reduceCtorEq, false_implies, true_implies, implies_true, and_false, false_and, dX7_costOfItems_0, dX7_costOfItems_1, dX7_costOfItems_2, dX7_costOfItems_3, dX7_costOfItems_5, dX7_costOfItems_7, dX7_costOfItems_8, dX7_costOfItems_11, dX7_costOfItems_14, dX7_costOfItems_17, dX7_costOfItems_18, dX7_costOfItems_21, dX7_costOfItems_22, dX7_costOfItems_23, dX7_costOfItems_25, dX7_costOfItems_26, dX7_costOfItems_29, dX7_costOfItems_31, dX7_costOfItems_33, dX7_costOfItems_36, dX7_costOfItems_39, dX7_costOfItems_42, dX7_costOfItems_43, dX7_costOfItems_45, dX7_costOfItems_48, dX7_costOfItems_49, dX7_costOfItems_52, dX7_costOfItems_53, dX7_costOfItems_54, dX7_costOfItems_56, dX7_costOfItems_57, dX7_costOfItems_58, dX7_costOfItems_59, dX7_costOfItems_62, dX7_costOfItems_64, dX7_costOfItems_65, dX7_costOfItems_68, dX7_costOfItems_70, dX7_costOfItems_73, dX7_costOfItems_76, dX7_costOfItems_78, dX7_costOfItems_80, dX7_costOfItems_83, dX7_costOfItems_86, dX7_costOfItems_87, dX7_costOfItems_88, dX7_costOfItems_89, dX7_costOfItems_92, dX7_costOfItems_94, dX7_costOfItems_96, dX7_costOfItems_98, dX7_costOfItems_101, dX7_costOfItems_102, dX7_costOfItems_103, dX7_costOfItems_104, dX7_costOfItems_105, dX7_costOfItems_108, dX7_costOfItems_110, dX7_costOfItems_112, dX7_costOfItems_115, dX7_costOfItems_116, dX7_costOfItems_117, dX7_costOfItems_120, dX7_costOfItems_123, dX7_costOfItems_124, cpX7, mT_X7_costOfItems, SHl_0, SHl_1, SHl_2, SHl_3, SHl_4, SHl_5, SHl_6, SHl_7, SHl_8, SHl_9, SHl_10, SHl_11, SHl_12, SHl_13, SHl_14, SHl_15, SHl_16, SHl_17, SHl_18, SHl_19, SHl_20, SHl_21, SHl_22, SHl_23, SHl_24, SHl_25, SHl_26, SHl_27, SHl_28, SHl_29, SHl_30, SHl_31, SHl_32, SHl_33, SHl_34, SHl_35, SHl_36, SHl_37, SHl_38, SHl_39, SHl_40, SHl_41, SHl_42, SHl_43, SHl_44, SHl_45, SHl_46, SHl_47, SHl_48, SHl_49, SHl_50, SHl_51, SHl_52, SHl_53, SHl_54, SHl_55, SHl_56, SHl_57, S_X4_priceBy, S_X4_priceOfStep, S_X4_staysWithin, S_X5_itemOf, S_X7_isWindow]
      unfold czZ at hz
      exact ⟨⟨by omega, by omega⟩, ⟨by omega, by omega⟩, fun _ => hz, fun q => by omega⟩
    | succ d ih =>
      intro k s hk hp hz u5 u6
      have occ := oc k (by omega)
      obtain ⟨e1, e2, e3, e4, e5⟩ := vC_c (σ := σ) (p := 7) (c := k) (by omega)
      rw [← hVe] at e1 e2 e3 e4 e5
      simp only [Nat.reduceAdd] at e1 e3
      unfold czZ at hz
      obtain ⟨g1, g2⟩ := hfR k
      refine hK (fun q => q == 5) 100 _ _ _ _ ?_
      simp only [↓wp, ↓stp, ilen, lnth, st1, st2, nolong, nohead, rnth, ↓gfX, ↓pfX, gfV, pfV, cpF, cpP, cndZ, ↓tgo, ↓tsw, ↓lsw, ↓ldI, ↓ldA, ↓ldL, ↓stI, ↓stA, ↓stL, ↓bin, ↓binD, ↓binL, ↓binDL, ↓una, ↓acV, ↓acK, ↓acpy, ↓inv, entL, nones, List.length_cons, List.length_nil, List.take, List.drop, List.reverse_cons, List.reverse_nil, List.nil_append, List.cons_append, Option.toList_some, Option.toList_none, Nat.reduceAdd, Nat.reduceSub, Nat.reduceLT, Nat.reduceEqDiff, Fin.isValue, aTL, aSZ, Int.toNat_natCast, hset_same, hset_o, hset_s, hset_row, ne_eq, Nat.reduceBEq, beq_self_eq_true, Fin.val_zero, Fin.val_one, fin0, fin1, fin2, fin3, Nat.le_refl, Nat.reduceLeDiff, Nat.zero_le, Int.reduceAdd, Int.reduceNeg, Int.reduceLE, Int.reduceLT, Int.reduceToNat, Int.reduceMul, Int.cast_ofNat_Int, Nat.reduceMod, ↓reduceIte, if_true, if_false, and_true, true_and, or_true, true_or, false_or, or_false, and_self, not_true_eq_false, not_false_eq_true, Bool.false_eq_true, reduceCtorEq, false_implies, true_implies, implies_true, and_false, false_and, dX7_costOfItems_0, dX7_costOfItems_1, dX7_costOfItems_2, dX7_costOfItems_3, dX7_costOfItems_5, dX7_costOfItems_7, dX7_costOfItems_8, dX7_costOfItems_11, dX7_costOfItems_14, dX7_costOfItems_17, dX7_costOfItems_18, dX7_costOfItems_21, dX7_costOfItems_22, dX7_costOfItems_23, dX7_costOfItems_25, dX7_costOfItems_26, dX7_costOfItems_29, dX7_costOfItems_31, dX7_costOfItems_33, dX7_costOfItems_36, dX7_costOfItems_39, dX7_costOfItems_42, dX7_costOfItems_43, dX7_costOfItems_45, dX7_costOfItems_48, dX7_costOfItems_49, dX7_costOfItems_52, dX7_costOfItems_53, dX7_costOfItems_54, dX7_costOfItems_56, dX7_costOfItems_57, dX7_costOfItems_58, dX7_costOfItems_59, dX7_costOfItems_62, dX7_costOfItems_64, dX7_costOfItems_65, dX7_costOfItems_68, dX7_costOfItems_70, dX7_costOfItems_73, dX7_costOfItems_76, dX7_costOfItems_78, dX7_costOfItems_80, dX7_costOfItems_83, dX7_costOfItems_86, dX7_costOfItems_87, dX7_costOfItems_88, dX7_costOfItems_89, dX7_costOfItems_92, dX7_costOfItems_94, dX7_costOfItems_96, dX7_costOfItems_98, dX7_costOfItems_101, dX7_costOfItems_102, dX7_costOfItems_103, dX7_costOfItems_104, dX7_costOfItems_105, dX7_costOfItems_108, dX7_costOfItems_110, dX7_costOfItems_112, dX7_costOfItems_115, dX7_costOfItems_116, dX7_costOfItems_117, dX7_costOfItems_120, dX7_costOfItems_123, dX7_costOfItems_124, cpX7, mT_X7_costOfItems, SHl_0, SHl_1, SHl_2, SHl_3, SHl_4, SHl_5, SHl_6, SHl_7, SHl_8, SHl_9, SHl_10, SHl_11, SHl_12, SHl_13, SHl_14, SHl_15, SHl_16, SHl_17, SHl_18, SHl_19, SHl_20, SHl_21, SHl_22, SHl_23, SHl_24, SHl_25, SHl_26, SHl_27, SHl_28, SHl_29, SHl_30, SHl_31, SHl_32, SHl_33, SHl_34, SHl_35, SHl_36, SHl_37, SHl_38, SHl_39, SHl_40, SHl_41, SHl_42, SHl_43, SHl_44, SHl_45, SHl_46, SHl_47, SHl_48, SHl_49, SHl_50, SHl_51, SHl_52, SHl_53, SHl_54, SHl_55, SHl_56, SHl_57, S_X4_priceBy, S_X4_priceOfStep, S_X4_staysWithin, S_X5_itemOf, S_X7_isWindow, hfk, ← hVe]
      by_cases h1 : -15 ≤ f k ∧ f k ≤ 8
      · rw [if_neg (fun z => z h1)] at hz
        by_cases h0 : k = 0
        · rw [if_neg (by omega), if_pos h0, Int.zero_add] at hz
          have hx := ih (k + 1) _ (by omega) (fun _ => h1) hz
          (repeat' (first | exact isPc_7 | exact hV | apply And.intro | intro _)) <;> first | omega | exact hx _ _
        · simp only [hfk1 k (by omega)]
          have hp1 := hp (by omega)
          rw [if_neg h0] at hz
          by_cases h3 : 4 ≤ V 1 k ∧ f (k - 1) ≠ f k
          · rw [if_pos ⟨by omega, h3⟩] at hz
            (repeat' (first | exact isPc_7 | exact hV | exact hz | apply And.intro | intro _)) <;> omega
          · rw [if_neg (fun z => h3 z.2)] at hz
            have hx := ih (k + 1) _ (by omega) (fun _ => h1) hz
            rw [← Int.add_assoc, e3] at hx
            (repeat' (first | exact isPc_7 | exact hV | exact hx _ _ | apply And.intro | intro _)) <;> omega
      · rw [if_pos h1] at hz
        (repeat' (first | exact hz | apply And.intro | intro _)) <;> first | omega | exact hz
  refine hK (fun q => q == 5) 100 _ _ _ _ ?_
  simp only [↓wp, ↓stp, ilen, lnth, st1, st2, nolong, nohead, rnth, ↓gfX, ↓pfX, gfV, pfV, cpF, cpP, cndZ, ↓tgo, ↓tsw, ↓lsw, ↓ldI, ↓ldA, ↓ldL, ↓stI, ↓stA, ↓stL, ↓bin, ↓binD, ↓binL, ↓binDL, ↓una, ↓acV, ↓acK, ↓acpy, ↓inv, entL, nones, List.length_cons, List.length_nil, List.take, List.drop, List.reverse_cons, List.reverse_nil, List.nil_append, List.cons_append, Option.toList_some, Option.toList_none, Nat.reduceAdd, Nat.reduceSub, Nat.reduceLT, Nat.reduceEqDiff, Fin.isValue, aTL, aSZ, Int.toNat_natCast, hset_same, hset_o, hset_s, hset_row, ne_eq, Nat.reduceBEq, beq_self_eq_true, Fin.val_zero, Fin.val_one, fin0, fin1, fin2, fin3, Nat.le_refl, Nat.reduceLeDiff, Nat.zero_le, Int.reduceAdd, Int.reduceNeg, Int.reduceLE, Int.reduceLT, Int.reduceToNat, Int.reduceMul, Int.cast_ofNat_Int, Nat.reduceMod, ↓reduceIte, if_true, if_false, and_true, true_and, or_true, true_or, false_or, or_false, and_self, not_true_eq_false, not_false_eq_true, Bool.false_eq_true, reduceCtorEq, false_implies, true_implies, implies_true, and_false, false_and, dX7_costOfItems_0, dX7_costOfItems_1, dX7_costOfItems_2, dX7_costOfItems_3, dX7_costOfItems_5, dX7_costOfItems_7, dX7_costOfItems_8, dX7_costOfItems_11, dX7_costOfItems_14, dX7_costOfItems_17, dX7_costOfItems_18, dX7_costOfItems_21, dX7_costOfItems_22, dX7_costOfItems_23, dX7_costOfItems_25, dX7_costOfItems_26, dX7_costOfItems_29, dX7_costOfItems_31, dX7_costOfItems_33, dX7_costOfItems_36, dX7_costOfItems_39, dX7_costOfItems_42, dX7_costOfItems_43, dX7_costOfItems_45, dX7_costOfItems_48, dX7_costOfItems_49, dX7_costOfItems_52, dX7_costOfItems_53, dX7_costOfItems_54, dX7_costOfItems_56, dX7_costOfItems_57, dX7_costOfItems_58, dX7_costOfItems_59, dX7_costOfItems_62, dX7_costOfItems_64, dX7_costOfItems_65, dX7_costOfItems_68, dX7_costOfItems_70, dX7_costOfItems_73, dX7_costOfItems_76, dX7_costOfItems_78, dX7_costOfItems_80, dX7_costOfItems_83, dX7_costOfItems_86, dX7_costOfItems_87, dX7_costOfItems_88, dX7_costOfItems_89, dX7_costOfItems_92, dX7_costOfItems_94, dX7_costOfItems_96, dX7_costOfItems_98, dX7_costOfItems_101, dX7_costOfItems_102, dX7_costOfItems_103, dX7_costOfItems_104, dX7_costOfItems_105, dX7_costOfItems_108, dX7_costOfItems_110, dX7_costOfItems_112, dX7_costOfItems_115, dX7_costOfItems_116, dX7_costOfItems_117, dX7_costOfItems_120, dX7_costOfItems_123, dX7_costOfItems_124, cpX7, mT_X7_costOfItems, SHl_0, SHl_1, SHl_2, SHl_3, SHl_4, SHl_5, SHl_6, SHl_7, SHl_8, SHl_9, SHl_10, SHl_11, SHl_12, SHl_13, SHl_14, SHl_15, SHl_16, SHl_17, SHl_18, SHl_19, SHl_20, SHl_21, SHl_22, SHl_23, SHl_24, SHl_25, SHl_26, SHl_27, SHl_28, SHl_29, SHl_30, SHl_31, SHl_32, SHl_33, SHl_34, SHl_35, SHl_36, SHl_37, SHl_38, SHl_39, SHl_40, SHl_41, SHl_42, SHl_43, SHl_44, SHl_45, SHl_46, SHl_47, SHl_48, SHl_49, SHl_50, SHl_51, SHl_52, SHl_53, SHl_54, SHl_55, SHl_56, SHl_57, S_X4_priceBy, S_X4_priceOfStep, S_X4_staysWithin, S_X5_itemOf, S_X7_isWindow]
  exact loop (ncV V) 0 0 (by omega) (fun h => by omega) hq _ _
def S_X7_bitIfLettersFit : MSpec := fun a σ Q => match a with
  | [.inr (.inl 0), .inl b, .inl r, .inl k] => okV (vC σ 22) ∧ coOk σ 22 ∧ 1 ≤ σ 22 1 ∧ (0 ≤ r ∧ r < 8) ∧ (0 ≤ k ∧ k ≤ σ 22 2) ∧ (∀ j, R32 (σ 2 j)) ∧ ∀ τ, only σ τ (fun q => 29 ≤ q ∧ q ≤ 36) → Q (some (.inl (if fitF (vC σ 22) (fun j => σ 2 ((40 * r).toNat + j)) k.toNat = 1 then zshl 1 b else 0))) τ
  | _ => False
theorem rc_X7_bitIfLettersFit : ∀ a σ Q, S_X7_bitIfLettersFit a σ Q → ∃ (p : Nat) (r : List AV), a = .inr (.inl p) :: r ∧ p < 76 ∧ (SH p).1 = 4 ∧ (SH p).2.1 = 6 := by
  intro a σ Q h
  unfold S_X7_bitIfLettersFit at h
  split at h
  · exact ⟨0, _, rfl, by decide, rfl, rfl⟩
  · exact h.elim
def mT_X7_bitIfLettersFit (i : Nat) : Option (Nat × Bool × MSpec) := match i with
  | 186 => some (1, false, S_X3_letterOf)
  | 279 => some (2, true, S_X2_solve)
  | 282 => some (2, true, S_X2_spell)
  | 310 => some (3, true, S_X5_itemOf)
  | _ => none
theorem mT_X7_bitIfLettersFit_ok {l : Launch} {n : Nat} (hn : 4 ≤ n) : ∀ i e, mT_X7_bitIfLettersFit i = some e → mV l (rmOf n) RX7 i e := by
  intro i e h
  unfold mT_X7_bitIfLettersFit at h
  split at h
  · cases h; exact mvS (lv := 1) mw_X3_letterOf (by omega) (by decide) (by decide +kernel) (Or.inl (gtm 494 (by decide +kernel) (by decide +kernel))) ok_X3_letterOf
  · cases h; exact mvI (lv := 3) (ci := 2) (T := TX2) (N := 10) mw_X2_solve rfl (by omega) (by decide) (by decide +kernel) (gtm 532 (by decide +kernel) (by decide +kernel)) rc_X2_solve ok_X2_solve
  · cases h; exact mvI (lv := 3) (ci := 2) (T := TX2) (N := 10) mw_X2_spell rfl (by omega) (by decide) (by decide +kernel) (gtm 571 (by decide +kernel) (by decide +kernel)) rc_X2_spell ok_X2_spell
  · cases h; exact mvI (lv := 0) (ci := 4) (T := TX5) (N := 3) mw_X5_itemOf rfl (by omega) (by decide) (by decide +kernel) (gtm 631 (by decide +kernel) (by decide +kernel)) rc_X5_itemOf ok_X5_itemOf
  · cases h
set_option maxRecDepth 100000 in
set_option maxHeartbeats 16000000 in
theorem ok_X7_bitIfLettersFit : ∀ l n, 4 ≤ n → ∀ a σ Q, S_X7_bitIfLettersFit a σ Q → AM l n yX7_bitIfLettersFit cX7_bitIfLettersFit 5 (some .int) a σ Q := by
  intro l n hn a σ Q hS
  unfold S_X7_bitIfLettersFit at hS
  split at hS
  rotate_left
  · exact hS.elim
  rename_i b r k
  obtain ⟨hV, hco, n1, r1, k1, hJ, hq⟩ := hS
  obtain ⟨V, hVe⟩ : ∃ V, V = vC σ 22 := ⟨_, rfl⟩
  simp only [← hVe] at hq hV
  obtain ⟨v0, v1, v2⟩ := vC_0 σ 22
  rw [← hVe] at v0 v1 v2
  obtain ⟨o1, o2, o3, -, oc, on⟩ := id hV
  have hnc : (ncV V : Int) = σ 22 1 := by unfold ncV; omega
  obtain ⟨N, hN⟩ : ∃ N : Nat, k = (N : Int) := ⟨k.toNat, by omega⟩
  rw [hN, Int.toNat_natCast] at hq
  generalize hf : (fun j => σ 2 ((40 * r).toNat + j)) = f at hq
  have hfk : ∀ j : Nat, σ 2 (r * 40 + (j : Int)).toNat = f j := fun j => by
    rw [← hf]
    show _ = σ 2 ((40 * r).toNat + j)
    congr 1
    omega
  have hfR : ∀ j, R32 (f j) := fun j => by rw [← hf]; exact hJ _
  refine am_ofF 1 cpX7 mT_X7_bitIfLettersFit (plainFor_of_name (by decide +kernel)) (rfl) (Nat.le_of_ble_eq_true rfl) (cpX7_ok) (mT_X7_bitIfLettersFit_ok hn) (fun K hK => ?_)
  have loop : ∀ τ, only σ τ (fun q => 29 ≤ q ∧ q ≤ 36) → spNotes τ 29 V → ∀ (d t : Nat), t + d = N → fitF V f t = 1 → K 25 [some (.inr (.inl 0)), some (.inl b), some (.inl r), some (.inl k), some (.inl (t : Int))] [] τ := by
    intro τ hτ hsp d
    have hq' := hq τ hτ
    have e2 : τ 2 = σ 2 := hτ 2 (by omega)
    induction d with
    | zero =>
      intro t ht h1
      rw [show N = t by omega, if_pos h1] at hq'
      refine hK (fun q => q == 25) 100 _ _ _ _ ?_
      simp only [↓wp, ↓stp, ilen, lnth, st1, st2, nolong, nohead, rnth, ↓gfX, ↓pfX, gfV, pfV, cpF, cpP, cndZ, ↓tgo, ↓tsw, ↓lsw, ↓ldI, ↓ldA, ↓ldL, ↓stI, ↓stA, ↓stL, ↓bin, ↓binD, ↓binL, ↓binDL, ↓una, ↓acV, ↓acK, ↓acpy, ↓inv, entL, nones, List.length_cons, List.length_nil, List.take, List.drop, List.reverse_cons, List.reverse_nil, List.nil_append, List.cons_append, Option.toList_some, Option.toList_none, Nat.reduceAdd, Nat.reduceSub, Nat.reduceLT, Nat.reduceEqDiff, Fin.isValue, aTL, aSZ, Int.toNat_natCast, hset_same, hset_o, hset_s, hset_row, ne_eq, Nat.reduceBEq, beq_self_eq_true, Fin.val_zero, Fin.val_one, fin0, fin1, fin2, fin3, Nat.le_refl, Nat.reduceLeDiff, Nat.zero_le, Int.reduceAdd, Int.reduceNeg, Int.reduceLE, Int.reduceLT, Int.reduceToNat, Int.reduceMul, Int.cast_ofNat_Int, Nat.reduceMod, ↓reduceIte, if_true, if_false, and_true, true_and, or_true, true_or, false_or, or_false, and_self, not_true_eq_false, not_false_eq_true, Bool.false_eq_true, reduceCtorEq, false_implies, true_implies, implies_true, and_false, false_and, dX7_bitIfLettersFit_0, dX7_bitIfLettersFit_1, dX7_bitIfLettersFit_4, dX7_bitIfLettersFit_5, dX7_bitIfLettersFit_8, dX7_bitIfLettersFit_11, dX7_bitIfLettersFit_12, dX7_bitIfLettersFit_15, dX7_bitIfLettersFit_16, dX7_bitIfLettersFit_19, dX7_bitIfLettersFit_22, dX7_bitIfLettersFit_23, dX7_bitIfLettersFit_25, dX7_bitIfLettersFit_27, dX7_bitIfLettersFit_28, dX7_bitIfLettersFit_31, dX7_bitIfLettersFit_32, dX7_bitIfLettersFit_35, dX7_bitIfLettersFit_36, dX7_bitIfLettersFit_38, dX7_bitIfLettersFit_41, dX7_bitIfLettersFit_42, dX7_bitIfLettersFit_45, dX7_bitIfLettersFit_48, dX7_bitIfLettersFit_50, dX7_bitIfLettersFit_51, dX7_bitIfLettersFit_54, dX7_bitIfLettersFit_57, dX7_bitIfLettersFit_58, dX7_bitIfLettersFit_59, dX7_bitIfLettersFit_62, dX7_bitIfLettersFit_65, dX7_bitIfLettersFit_66, dX7_bitIfLettersFit_67, dX7_bitIfLettersFit_68, cpX7, mT_X7_bitIfLettersFit, SHl_0, SHl_1, SHl_2, SHl_3, SHl_4, SHl_5, SHl_6, SHl_7, SHl_8, SHl_9, SHl_10, SHl_11, SHl_12, SHl_13, SHl_14, SHl_15, SHl_16, SHl_17, SHl_18, SHl_19, SHl_20, SHl_21, SHl_22, SHl_23, SHl_24, SHl_25, SHl_26, SHl_27, SHl_28, SHl_29, SHl_30, SHl_31, SHl_32, SHl_33, SHl_34, SHl_35, SHl_36, SHl_37, SHl_38, SHl_39, SHl_40, SHl_41, SHl_42, SHl_43, SHl_44, SHl_45, SHl_46, SHl_47, SHl_48, SHl_49, SHl_50, SHl_51, SHl_52, SHl_53, SHl_54, SHl_55, SHl_56, SHl_57, S_X2_solve, S_X2_spell, S_X3_letterOf, S_X5_itemOf]
      exact ⟨⟨by omega, by omega⟩, ⟨by omega, by omega⟩, fun _ => hq', fun q => by omega⟩
    | succ d ih =>
      intro t ht h1
      obtain ⟨c, j, hc, hj, hcj⟩ := note_of hV (n := t) (by omega)
      have plb := plV_b hV (c := c) (j := j) hc
      have hnl : nlV V t = letZ (plV V c j) := by rw [hcj]; exact nlV_eq hV hc hj
      have hnm := (hsp c j hc hj).1
      rw [← hcj] at hnm
      have hnm : τ 31 t = plV V c j := hnm
      have hlb := letZ_b (plV V c j)
      obtain ⟨g1, g2⟩ := hfR t
      refine hK (fun q => q == 25) 100 _ _ _ _ ?_
      simp only [↓wp, ↓stp, ilen, lnth, st1, st2, nolong, nohead, rnth, ↓gfX, ↓pfX, gfV, pfV, cpF, cpP, cndZ, ↓tgo, ↓tsw, ↓lsw, ↓ldI, ↓ldA, ↓ldL, ↓stI, ↓stA, ↓stL, ↓bin, ↓binD, ↓binL, ↓binDL, ↓una, ↓acV, ↓acK, ↓acpy, ↓inv, entL, nones, List.length_cons, List.length_nil, List.take, List.drop, List.reverse_cons, List.reverse_nil, List.nil_append, List.cons_append, Option.toList_some, Option.toList_none, Nat.reduceAdd, Nat.reduceSub, Nat.reduceLT, Nat.reduceEqDiff, Fin.isValue, aTL, aSZ, Int.toNat_natCast, hset_same, hset_o, hset_s, hset_row, ne_eq, Nat.reduceBEq, beq_self_eq_true, Fin.val_zero, Fin.val_one, fin0, fin1, fin2, fin3, Nat.le_refl, Nat.reduceLeDiff, Nat.zero_le, Int.reduceAdd, Int.reduceNeg, Int.reduceLE, Int.reduceLT, Int.reduceToNat, Int.reduceMul, Int.cast_ofNat_Int, Nat.reduceMod, ↓reduceIte, if_true, if_false, and_true, true_and, or_true, true_or, false_or, or_false, and_self, not_true_eq_false, not_false_eq_true, Bool.false_eq_true, reduceCtorEq, false_implies, true_implies, implies_true, and_false, false_and, dX7_bitIfLettersFit_0, dX7_bitIfLettersFit_1, dX7_bitIfLettersFit_4, dX7_bitIfLettersFit_5, dX7_bitIfLettersFit_8, dX7_bitIfLettersFit_11, dX7_bitIfLettersFit_12, dX7_bitIfLettersFit_15, dX7_bitIfLettersFit_16, dX7_bitIfLettersFit_19, dX7_bitIfLettersFit_22, dX7_bitIfLettersFit_23, dX7_bitIfLettersFit_25, dX7_bitIfLettersFit_27, dX7_bitIfLettersFit_28, dX7_bitIfLettersFit_31, dX7_bitIfLettersFit_32, dX7_bitIfLettersFit_35, dX7_bitIfLettersFit_36, dX7_bitIfLettersFit_38, dX7_bitIfLettersFit_41, dX7_bitIfLettersFit_42, dX7_bitIfLettersFit_45, dX7_bitIfLettersFit_48, dX7_bitIfLettersFit_50, dX7_bitIfLettersFit_51, dX7_bitIfLettersFit_54, dX7_bitIfLettersFit_57, dX7_bitIfLettersFit_58, dX7_bitIfLettersFit_59, dX7_bitIfLettersFit_62, dX7_bitIfLettersFit_65, dX7_bitIfLettersFit_66, dX7_bitIfLettersFit_67, dX7_bitIfLettersFit_68, cpX7, mT_X7_bitIfLettersFit, SHl_0, SHl_1, SHl_2, SHl_3, SHl_4, SHl_5, SHl_6, SHl_7, SHl_8, SHl_9, SHl_10, SHl_11, SHl_12, SHl_13, SHl_14, SHl_15, SHl_16, SHl_17, SHl_18, SHl_19, SHl_20, SHl_21, SHl_22, SHl_23, SHl_24, SHl_25, SHl_26, SHl_27, SHl_28, SHl_29, SHl_30, SHl_31, SHl_32, SHl_33, SHl_34, SHl_35, SHl_36, SHl_37, SHl_38, SHl_39, SHl_40, SHl_41, SHl_42, SHl_43, SHl_44, SHl_45, SHl_46, SHl_47, SHl_48, SHl_49, SHl_50, SHl_51, SHl_52, SHl_53, SHl_54, SHl_55, SHl_56, SHl_57, S_X2_solve, S_X2_spell, S_X3_letterOf, S_X5_itemOf]
      rw [hnm, e2, hfk]
      have hlz : (plV V c j + 1) % 7 = letZ (plV V c j) := rfl
      rw [hlz]
      by_cases e : f t = letZ (plV V c j)
      · have hx := ih (t + 1) (by omega) (by rw [fitF_s, if_pos ⟨h1, by rw [hnl, e]⟩])
        (repeat' (first | exact hx | apply And.intro | intro _)) <;> omega
      · have h0 : fitF V f (t + 1) = 0 := by rw [fitF_s, if_neg (fun z => e (by rw [← z.2, hnl]))]
        have hN0 : fitF V f N = 0 := by
          have := fitF_0 h0 (N - (t + 1))
          rw [show t + 1 + (N - (t + 1)) = N by omega] at this
          exact this
        rw [if_neg (by omega)] at hq'
        (repeat' (first | exact hq' | apply And.intro | intro _)) <;> omega
  refine hK (fun q => q == 25) 100 _ _ _ _ ?_
  simp only [↓wp, ↓stp, ilen, lnth, st1, st2, nolong, nohead, rnth, ↓gfX, ↓pfX, gfV, pfV, cpF, cpP, cndZ, ↓tgo, ↓tsw, ↓lsw, ↓ldI, ↓ldA, ↓ldL, ↓stI, ↓stA, ↓stL, ↓bin, ↓binD, ↓binL, ↓binDL, ↓una, ↓acV, ↓acK, ↓acpy, ↓inv, entL, nones, List.length_cons, List.length_nil, List.take, List.drop, List.reverse_cons, List.reverse_nil, List.nil_append, List.cons_append, Option.toList_some, Option.toList_none, Nat.reduceAdd, Nat.reduceSub, Nat.reduceLT, Nat.reduceEqDiff, Fin.isValue, aTL, aSZ, Int.toNat_natCast, hset_same, hset_o, hset_s, hset_row, ne_eq, Nat.reduceBEq, beq_self_eq_true, Fin.val_zero, Fin.val_one, fin0, fin1, fin2, fin3, Nat.le_refl, Nat.reduceLeDiff, Nat.zero_le, Int.reduceAdd, Int.reduceNeg, Int.reduceLE, Int.reduceLT, Int.reduceToNat, Int.reduceMul, Int.cast_ofNat_Int, Nat.reduceMod, ↓reduceIte, if_true, if_false, and_true, true_and, or_true, true_or, false_or, or_false, and_self, not_true_eq_false, not_false_eq_true, Bool.false_eq_true, reduceCtorEq, false_implies, true_implies, implies_true, and_false, false_and, dX7_bitIfLettersFit_0, dX7_bitIfLettersFit_1, dX7_bitIfLettersFit_4, dX7_bitIfLettersFit_5, dX7_bitIfLettersFit_8, dX7_bitIfLettersFit_11, dX7_bitIfLettersFit_12, dX7_bitIfLettersFit_15, dX7_bitIfLettersFit_16, dX7_bitIfLettersFit_19, dX7_bitIfLettersFit_22, dX7_bitIfLettersFit_23, dX7_bitIfLettersFit_25, dX7_bitIfLettersFit_27, dX7_bitIfLettersFit_28, dX7_bitIfLettersFit_31, dX7_bitIfLettersFit_32, dX7_bitIfLettersFit_35, dX7_bitIfLettersFit_36, dX7_bitIfLettersFit_38, dX7_bitIfLettersFit_41, dX7_bitIfLettersFit_42, dX7_bitIfLettersFit_45, dX7_bitIfLettersFit_48, dX7_bitIfLettersFit_50, dX7_bitIfLettersFit_51, dX7_bitIfLettersFit_54, dX7_bitIfLettersFit_57, dX7_bitIfLettersFit_58, dX7_bitIfLettersFit_59, dX7_bitIfLettersFit_62, dX7_bitIfLettersFit_65, dX7_bitIfLettersFit_66, dX7_bitIfLettersFit_67, dX7_bitIfLettersFit_68, cpX7, mT_X7_bitIfLettersFit, SHl_0, SHl_1, SHl_2, SHl_3, SHl_4, SHl_5, SHl_6, SHl_7, SHl_8, SHl_9, SHl_10, SHl_11, SHl_12, SHl_13, SHl_14, SHl_15, SHl_16, SHl_17, SHl_18, SHl_19, SHl_20, SHl_21, SHl_22, SHl_23, SHl_24, SHl_25, SHl_26, SHl_27, SHl_28, SHl_29, SHl_30, SHl_31, SHl_32, SHl_33, SHl_34, SHl_35, SHl_36, SHl_37, SHl_38, SHl_39, SHl_40, SHl_41, SHl_42, SHl_43, SHl_44, SHl_45, SHl_46, SHl_47, SHl_48, SHl_49, SHl_50, SHl_51, SHl_52, SHl_53, SHl_54, SHl_55, SHl_56, SHl_57, S_X2_solve, S_X2_spell, S_X3_letterOf, S_X5_itemOf]
  refine ⟨isBs_29, isPc_22, by unfold sepBP; omega, by rw [← hVe]; exact hV, n1, fun τ hτ => ?_⟩
  rw [← hVe] at hτ
  obtain ⟨o, t0, t1, t2, tw⟩ := hτ
  have hp22 : ∀ i, i ≤ 6 → ¬ svP 29 (22 + i) := fun i hi => by unfold svP; omega
  have v1' : vC τ 22 = V := by rw [vC_only o hp22, hVe]
  refine ⟨isBs_29, isPc_22, by unfold sepBP; omega, by rw [v1']; exact hV, by rw [o 22 (hp22 0 (by omega))]; exact n1, coOk_only o hp22 hco, by rw [v1']; exact tw, fun ρ hρ => ?_⟩
  rw [v1'] at hρ
  refine loop ρ (fun q hqq => ?_) hρ.2.2.2.2 N 0 (by omega) rfl
  rw [hρ.1 q (by unfold spP; omega), o q (by unfold svP; omega)]
/-- the trial is the piece otherwise at one place -/
theorem fit_step {σ : HP} {r k : Int} {lo t : Nat} {V : HP} {g : Nat → HP} {f : Nat → Int} (hg : vC σ 22 = g (lo + t)) (hf : (fun j => σ 2 ((40 * r).toNat + j)) = f) : zor (orF (fun v => fitF (g v) f k.toNat) lo t) (if fitF (vC σ 22) (fun j => σ 2 ((40 * r).toNat + j)) k.toNat = 1 then zshl 1 ((lo + t : Nat) : Int) else 0) = orF (fun v => fitF (g v) f k.toNat) lo (t + 1) := by
  rw [hg, hf]
  rfl
