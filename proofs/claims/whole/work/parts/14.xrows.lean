/-! ===== the class's rows: row, set, copy, drop ===== -/
def S_X7_found : MSpec := fun a σ Q => match a with
  | [.inr (.inl 0), .inl f] => Q (some (.inl (-1000010 - f))) (hset σ 0 14 f)
  | _ => False
theorem rc_X7_found : ∀ a σ Q, S_X7_found a σ Q → ∃ (p : Nat) (r : List AV), a = .inr (.inl p) :: r ∧ p < 76 ∧ (SH p).1 = 4 ∧ (SH p).2.1 = 6 := by
  intro a σ Q h
  unfold S_X7_found at h
  split at h
  · exact ⟨0, _, rfl, by decide, rfl, rfl⟩
  · exact h.elim
def mT_X7_found (i : Nat) : Option (Nat × Bool × MSpec) := match i with
  | _ => none
theorem mT_X7_found_ok {l : Launch} {n : Nat} (hn : 0 ≤ n) : ∀ i e, mT_X7_found i = some e → mV l (rmOf n) RX7 i e := by
  intro i e h
  unfold mT_X7_found at h
  split at h
  · cases h
set_option maxRecDepth 100000 in
set_option maxHeartbeats 4000000 in
theorem ok_X7_found : ∀ l n, 0 ≤ n → ∀ a σ Q, S_X7_found a σ Q → AM l n yX7_found cX7_found 2 (some .int) a σ Q := by
  intro l n hn a σ Q hS
  unfold S_X7_found at hS
  split at hS
  rotate_left
  · exact hS.elim
  rename_i f
  obtain hq := hS
  refine am_ofF 1 cpX7 mT_X7_found (plainFor_of_name (by decide +kernel)) (rfl) (Nat.le_of_ble_eq_true rfl) (cpX7_ok) (mT_X7_found_ok hn) (fun K hK => ?_)
  refine hK (fun _ => false) 200 _ _ _ _ ?_
  simp only [↓wp, ↓stp, ilen, lnth, st1, st2, nolong, nohead, rnth, ↓gfX, ↓pfX, gfV, pfV, cpF, cpP, cndZ, ↓tgo, ↓tsw, ↓lsw, ↓ldI, ↓ldA, ↓ldL, ↓stI, ↓stA, ↓stL, ↓bin, ↓binD, ↓binL, ↓binDL, ↓una, ↓acV, ↓acK, ↓acpy, ↓inv, entL, nones, List.length_cons, List.length_nil, List.take, List.drop, List.reverse_cons, List.reverse_nil, List.nil_append, List.cons_append, Option.toList_some, Option.toList_none, Nat.reduceAdd, Nat.reduceSub, Nat.reduceLT, Nat.reduceEqDiff, Fin.isValue, aTL, aSZ, Int.toNat_natCast, hset_same, hset_o, hset_s, hset_row, ne_eq, Nat.reduceBEq, beq_self_eq_true, Fin.val_zero, Fin.val_one, fin0, fin1, fin2, fin3, Nat.le_refl, Nat.reduceLeDiff, Nat.zero_le, Int.reduceAdd, Int.reduceNeg, Int.reduceLE, Int.reduceLT, Int.reduceToNat, Int.reduceMul, Int.cast_ofNat_Int, Nat.reduceMod, ↓reduceIte, if_true, if_false, and_true, true_and, or_true, true_or, false_or, or_false, and_self, not_true_eq_false, not_false_eq_true, Bool.false_eq_true, reduceCtorEq, false_implies, true_implies, implies_true, and_false, false_and, dX7_found_0, dX7_found_1, dX7_found_2, dX7_found_5, dX7_found_8, dX7_found_9, dX7_found_10, cpX7, mT_X7_found, SHl_0, SHl_1, SHl_2, SHl_3, SHl_4, SHl_5, SHl_6, SHl_7, SHl_8, SHl_9, SHl_10, SHl_11, SHl_12, SHl_13, SHl_14, SHl_15, SHl_16, SHl_17, SHl_18, SHl_19, SHl_20, SHl_21, SHl_22, SHl_23, SHl_24, SHl_25, SHl_26, SHl_27, SHl_28, SHl_29, SHl_30, SHl_31, SHl_32, SHl_33, SHl_34, SHl_35, SHl_36, SHl_37, SHl_38, SHl_39, SHl_40, SHl_41, SHl_42, SHl_43, SHl_44, SHl_45, SHl_46, SHl_47, SHl_48, SHl_49, SHl_50, SHl_51, SHl_52, SHl_53, SHl_54, SHl_55, SHl_56, SHl_57]
  (repeat' (first | apply And.intro | intro _)) <;> first | omega | exact hq | (rw [if_pos (by omega)] at hq; exact hq) | (rw [if_neg (by omega)] at hq; exact hq) | (repeat (first | rw [if_pos (by omega)] at hq | rw [if_neg (by omega)] at hq)) <;> exact hq | assumption | exact R32_of _
def S_X7_fine : MSpec := fun a σ Q => match a with
  | [.inr (.inl 0), .inl v] => Q (some (.inl v)) (hset σ 0 14 0)
  | _ => False
theorem rc_X7_fine : ∀ a σ Q, S_X7_fine a σ Q → ∃ (p : Nat) (r : List AV), a = .inr (.inl p) :: r ∧ p < 76 ∧ (SH p).1 = 4 ∧ (SH p).2.1 = 6 := by
  intro a σ Q h
  unfold S_X7_fine at h
  split at h
  · exact ⟨0, _, rfl, by decide, rfl, rfl⟩
  · exact h.elim
def mT_X7_fine (i : Nat) : Option (Nat × Bool × MSpec) := match i with
  | _ => none
theorem mT_X7_fine_ok {l : Launch} {n : Nat} (hn : 0 ≤ n) : ∀ i e, mT_X7_fine i = some e → mV l (rmOf n) RX7 i e := by
  intro i e h
  unfold mT_X7_fine at h
  split at h
  · cases h
set_option maxRecDepth 100000 in
set_option maxHeartbeats 4000000 in
theorem ok_X7_fine : ∀ l n, 0 ≤ n → ∀ a σ Q, S_X7_fine a σ Q → AM l n yX7_fine cX7_fine 2 (some .int) a σ Q := by
  intro l n hn a σ Q hS
  unfold S_X7_fine at hS
  split at hS
  rotate_left
  · exact hS.elim
  rename_i v
  obtain hq := hS
  refine am_ofF 1 cpX7 mT_X7_fine (plainFor_of_name (by decide +kernel)) (rfl) (Nat.le_of_ble_eq_true rfl) (cpX7_ok) (mT_X7_fine_ok hn) (fun K hK => ?_)
  refine hK (fun _ => false) 200 _ _ _ _ ?_
  simp only [↓wp, ↓stp, ilen, lnth, st1, st2, nolong, nohead, rnth, ↓gfX, ↓pfX, gfV, pfV, cpF, cpP, cndZ, ↓tgo, ↓tsw, ↓lsw, ↓ldI, ↓ldA, ↓ldL, ↓stI, ↓stA, ↓stL, ↓bin, ↓binD, ↓binL, ↓binDL, ↓una, ↓acV, ↓acK, ↓acpy, ↓inv, entL, nones, List.length_cons, List.length_nil, List.take, List.drop, List.reverse_cons, List.reverse_nil, List.nil_append, List.cons_append, Option.toList_some, Option.toList_none, Nat.reduceAdd, Nat.reduceSub, Nat.reduceLT, Nat.reduceEqDiff, Fin.isValue, aTL, aSZ, Int.toNat_natCast, hset_same, hset_o, hset_s, hset_row, ne_eq, Nat.reduceBEq, beq_self_eq_true, Fin.val_zero, Fin.val_one, fin0, fin1, fin2, fin3, Nat.le_refl, Nat.reduceLeDiff, Nat.zero_le, Int.reduceAdd, Int.reduceNeg, Int.reduceLE, Int.reduceLT, Int.reduceToNat, Int.reduceMul, Int.cast_ofNat_Int, Nat.reduceMod, ↓reduceIte, if_true, if_false, and_true, true_and, or_true, true_or, false_or, or_false, and_self, not_true_eq_false, not_false_eq_true, Bool.false_eq_true, reduceCtorEq, false_implies, true_implies, implies_true, and_false, false_and, dX7_fine_0, dX7_fine_1, dX7_fine_2, dX7_fine_5, dX7_fine_6, cpX7, mT_X7_fine, SHl_0, SHl_1, SHl_2, SHl_3, SHl_4, SHl_5, SHl_6, SHl_7, SHl_8, SHl_9, SHl_10, SHl_11, SHl_12, SHl_13, SHl_14, SHl_15, SHl_16, SHl_17, SHl_18, SHl_19, SHl_20, SHl_21, SHl_22, SHl_23, SHl_24, SHl_25, SHl_26, SHl_27, SHl_28, SHl_29, SHl_30, SHl_31, SHl_32, SHl_33, SHl_34, SHl_35, SHl_36, SHl_37, SHl_38, SHl_39, SHl_40, SHl_41, SHl_42, SHl_43, SHl_44, SHl_45, SHl_46, SHl_47, SHl_48, SHl_49, SHl_50, SHl_51, SHl_52, SHl_53, SHl_54, SHl_55, SHl_56, SHl_57]
  (repeat' (first | apply And.intro | intro _)) <;> first | omega | exact hq | (rw [if_pos (by omega)] at hq; exact hq) | (rw [if_neg (by omega)] at hq; exact hq) | (repeat (first | rw [if_pos (by omega)] at hq | rw [if_neg (by omega)] at hq)) <;> exact hq | assumption | exact R32_of _
/-- what the class's rows hold: lanes, sizes, items -/
def iRow (σ : HP) : Prop := (∀ r, r < 8 → (-1 ≤ σ 4 r ∧ σ 4 r ≤ 40) ∧ (0 ≤ σ 3 r ∧ σ 3 r ≤ 2)) ∧ ∀ j, R32 (σ 2 j)
def S_X7_row : MSpec := fun a σ Q => match a with
  | [.inr (.inl 0), .inl r, .inl ln, .inl n] => R32 r ∧ R32 ln ∧ R32 n ∧ (if ¬ (0 ≤ r ∧ r < 8) ∨ ln < 0 ∨ 2 < ln ∨ 40 < n then Q (some (.inl (-1000001))) σ else if n < 0 then Q (some (.inl (-1000014))) (hset σ 0 14 4) else Q (some (.inl n)) (hset (hfill (hset (hset σ 3 r.toNat ln) 4 r.toNat n) 2 (r * 40).toNat n.toNat) 0 14 0))
  | _ => False
theorem rc_X7_row : ∀ a σ Q, S_X7_row a σ Q → ∃ (p : Nat) (r : List AV), a = .inr (.inl p) :: r ∧ p < 76 ∧ (SH p).1 = 4 ∧ (SH p).2.1 = 6 := by
  intro a σ Q h
  unfold S_X7_row at h
  split at h
  · exact ⟨0, _, rfl, by decide, rfl, rfl⟩
  · exact h.elim
def mT_X7_row (i : Nat) : Option (Nat × Bool × MSpec) := match i with
  | 81 => some (1, false, S_X5_isRow)
  | 86 => some (2, true, S_X7_found)
  | 90 => some (4, true, S_X5_make)
  | 94 => some (2, true, S_X7_fine)
  | _ => none
theorem mT_X7_row_ok {l : Launch} {n : Nat} (hn : 1 ≤ n) : ∀ i e, mT_X7_row i = some e → mV l (rmOf n) RX7 i e := by
  intro i e h
  unfold mT_X7_row at h
  split at h
  · cases h; exact mvS (lv := 0) mw_X5_isRow (by omega) (by decide) (by decide +kernel) (Or.inl (gtm 274 (by decide +kernel) (by decide +kernel))) ok_X5_isRow
  · cases h; exact mvI (lv := 0) (ci := 6) (T := TX7) (N := 15) mw_X7_found rfl (by omega) (by decide) (by decide +kernel) (gtm 278 (by decide +kernel) (by decide +kernel)) rc_X7_found ok_X7_found
  · cases h; exact mvI (lv := 0) (ci := 4) (T := TX5) (N := 3) mw_X5_make rfl (by omega) (by decide) (by decide +kernel) (gtm 283 (by decide +kernel) (by decide +kernel)) rc_X5_make ok_X5_make
  · cases h; exact mvI (lv := 0) (ci := 6) (T := TX7) (N := 15) mw_X7_fine rfl (by omega) (by decide) (by decide +kernel) (gtm 287 (by decide +kernel) (by decide +kernel)) rc_X7_fine ok_X7_fine
  · cases h
set_option maxRecDepth 100000 in
set_option maxHeartbeats 4000000 in
theorem ok_X7_row : ∀ l n, 1 ≤ n → ∀ a σ Q, S_X7_row a σ Q → AM l n yX7_row cX7_row 4 (some .int) a σ Q := by
  intro l n hn a σ Q hS
  unfold S_X7_row at hS
  split at hS
  rotate_left
  · exact hS.elim
  rename_i r ln n
  obtain ⟨⟨r1, r2⟩, ⟨l1, l2⟩, ⟨n1, n2⟩, hq⟩ := hS
  refine am_ofF 1 cpX7 mT_X7_row (plainFor_of_name (by decide +kernel)) (rfl) (Nat.le_of_ble_eq_true rfl) (cpX7_ok) (mT_X7_row_ok hn) (fun K hK => ?_)
  refine hK (fun _ => false) 200 _ _ _ _ ?_
  simp only [↓wp, ↓stp, ilen, lnth, st1, st2, nolong, nohead, rnth, ↓gfX, ↓pfX, gfV, pfV, cpF, cpP, cndZ, ↓tgo, ↓tsw, ↓lsw, ↓ldI, ↓ldA, ↓ldL, ↓stI, ↓stA, ↓stL, ↓bin, ↓binD, ↓binL, ↓binDL, ↓una, ↓acV, ↓acK, ↓acpy, ↓inv, entL, nones, List.length_cons, List.length_nil, List.take, List.drop, List.reverse_cons, List.reverse_nil, List.nil_append, List.cons_append, Option.toList_some, Option.toList_none, Nat.reduceAdd, Nat.reduceSub, Nat.reduceLT, Nat.reduceEqDiff, Fin.isValue, aTL, aSZ, Int.toNat_natCast, hset_same, hset_o, hset_s, hset_row, ne_eq, Nat.reduceBEq, beq_self_eq_true, Fin.val_zero, Fin.val_one, fin0, fin1, fin2, fin3, Nat.le_refl, Nat.reduceLeDiff, Nat.zero_le, Int.reduceAdd, Int.reduceNeg, Int.reduceLE, Int.reduceLT, Int.reduceToNat, Int.reduceMul, Int.cast_ofNat_Int, Nat.reduceMod, ↓reduceIte, if_true, if_false, and_true, true_and, or_true, true_or, false_or, or_false, and_self, not_true_eq_false, not_false_eq_true, Bool.false_eq_true, reduceCtorEq, false_implies, true_implies, implies_true, and_false, false_and, dX7_row_0, dX7_row_1, dX7_row_4, dX7_row_7, dX7_row_8, dX7_row_11, dX7_row_12, dX7_row_13, dX7_row_16, dX7_row_17, dX7_row_19, dX7_row_22, dX7_row_24, dX7_row_25, dX7_row_26, dX7_row_29, dX7_row_30, dX7_row_31, dX7_row_34, dX7_row_35, dX7_row_36, dX7_row_39, dX7_row_40, dX7_row_41, dX7_row_42, dX7_row_45, dX7_row_46, dX7_row_47, dX7_row_50, cpX7, mT_X7_row, SHl_0, SHl_1, SHl_2, SHl_3, SHl_4, SHl_5, SHl_6, SHl_7, SHl_8, SHl_9, SHl_10, SHl_11, SHl_12, SHl_13, SHl_14, SHl_15, SHl_16, SHl_17, SHl_18, SHl_19, SHl_20, SHl_21, SHl_22, SHl_23, SHl_24, SHl_25, SHl_26, SHl_27, SHl_28, SHl_29, SHl_30, SHl_31, SHl_32, SHl_33, SHl_34, SHl_35, SHl_36, SHl_37, SHl_38, SHl_39, SHl_40, SHl_41, SHl_42, SHl_43, SHl_44, SHl_45, SHl_46, SHl_47, SHl_48, SHl_49, SHl_50, SHl_51, SHl_52, SHl_53, SHl_54, SHl_55, SHl_56, SHl_57, S_X5_isRow, S_X5_make, S_X7_fine, S_X7_found]
  (repeat' (first | apply And.intro | intro _)) <;> first | omega | exact hq | (rw [if_pos (by omega)] at hq; exact hq) | (rw [if_neg (by omega)] at hq; exact hq) | (repeat (first | rw [if_pos (by omega)] at hq | rw [if_neg (by omega)] at hq)) <;> exact hq | assumption | exact R32_of _
def S_X7_set : MSpec := fun a σ Q => match a with
  | [.inr (.inl 0), .inl r, .inl i, .inl v] => R32 r ∧ R32 i ∧ R32 v ∧ iRow σ ∧ (if ¬ (0 ≤ r ∧ r < 8) then Q (some (.inl (-1000001))) σ else if σ 4 r.toNat = -1 then Q (some (.inl (-1000011))) (hset σ 0 14 1) else if ¬ (0 ≤ i ∧ 1 ≤ σ 4 r.toNat - i) then Q (some (.inl (-1000012))) (hset σ 0 14 2) else Q (some (.inl (laneV (σ 3 r.toNat) v))) (hset (hset σ 2 (r * 40 + i).toNat (laneV (σ 3 r.toNat) v)) 0 14 0))
  | _ => False
theorem rc_X7_set : ∀ a σ Q, S_X7_set a σ Q → ∃ (p : Nat) (r : List AV), a = .inr (.inl p) :: r ∧ p < 76 ∧ (SH p).1 = 4 ∧ (SH p).2.1 = 6 := by
  intro a σ Q h
  unfold S_X7_set at h
  split at h
  · exact ⟨0, _, rfl, by decide, rfl, rfl⟩
  · exact h.elim
def mT_X7_set (i : Nat) : Option (Nat × Bool × MSpec) := match i with
  | 81 => some (1, false, S_X5_isRow)
  | 86 => some (2, true, S_X7_found)
  | 94 => some (2, true, S_X7_fine)
  | 97 => some (2, true, S_X5_isMissing)
  | 100 => some (4, true, S_X5_holds)
  | 104 => some (4, true, S_X5_put)
  | _ => none
theorem mT_X7_set_ok {l : Launch} {n : Nat} (hn : 1 ≤ n) : ∀ i e, mT_X7_set i = some e → mV l (rmOf n) RX7 i e := by
  intro i e h
  unfold mT_X7_set at h
  split at h
  · cases h; exact mvS (lv := 0) mw_X5_isRow (by omega) (by decide) (by decide +kernel) (Or.inl (gtm 274 (by decide +kernel) (by decide +kernel))) ok_X5_isRow
  · cases h; exact mvI (lv := 0) (ci := 6) (T := TX7) (N := 15) mw_X7_found rfl (by omega) (by decide) (by decide +kernel) (gtm 278 (by decide +kernel) (by decide +kernel)) rc_X7_found ok_X7_found
  · cases h; exact mvI (lv := 0) (ci := 6) (T := TX7) (N := 15) mw_X7_fine rfl (by omega) (by decide) (by decide +kernel) (gtm 287 (by decide +kernel) (by decide +kernel)) rc_X7_fine ok_X7_fine
  · cases h; exact mvI (lv := 0) (ci := 4) (T := TX5) (N := 3) mw_X5_isMissing rfl (by omega) (by decide) (by decide +kernel) (gtm 295 (by decide +kernel) (by decide +kernel)) rc_X5_isMissing ok_X5_isMissing
  · cases h; exact mvI (lv := 0) (ci := 4) (T := TX5) (N := 3) mw_X5_holds rfl (by omega) (by decide) (by decide +kernel) (gtm 299 (by decide +kernel) (by decide +kernel)) rc_X5_holds ok_X5_holds
  · cases h; exact mvI (lv := 0) (ci := 4) (T := TX5) (N := 3) mw_X5_put rfl (by omega) (by decide) (by decide +kernel) (gtm 303 (by decide +kernel) (by decide +kernel)) rc_X5_put ok_X5_put
  · cases h
set_option maxRecDepth 100000 in
set_option maxHeartbeats 4000000 in
theorem ok_X7_set : ∀ l n, 1 ≤ n → ∀ a σ Q, S_X7_set a σ Q → AM l n yX7_set cX7_set 4 (some .int) a σ Q := by
  intro l n hn a σ Q hS
  unfold S_X7_set at hS
  split at hS
  rotate_left
  · exact hS.elim
  rename_i r i v
  obtain ⟨⟨r1, r2⟩, ⟨i1, i2⟩, ⟨v1, v2⟩, hI, hq⟩ := hS
  refine am_ofF 1 cpX7 mT_X7_set (plainFor_of_name (by decide +kernel)) (rfl) (Nat.le_of_ble_eq_true rfl) (cpX7_ok) (mT_X7_set_ok hn) (fun K hK => ?_)
  refine hK (fun _ => false) 200 _ _ _ _ ?_
  simp only [↓wp, ↓stp, ilen, lnth, st1, st2, nolong, nohead, rnth, ↓gfX, ↓pfX, gfV, pfV, cpF, cpP, cndZ, ↓tgo, ↓tsw, ↓lsw, ↓ldI, ↓ldA, ↓ldL, ↓stI, ↓stA, ↓stL, ↓bin, ↓binD, ↓binL, ↓binDL, ↓una, ↓acV, ↓acK, ↓acpy, ↓inv, entL, nones, List.length_cons, List.length_nil, List.take, List.drop, List.reverse_cons, List.reverse_nil, List.nil_append, List.cons_append, Option.toList_some, Option.toList_none, Nat.reduceAdd, Nat.reduceSub, Nat.reduceLT, Nat.reduceEqDiff, Fin.isValue, aTL, aSZ, Int.toNat_natCast, hset_same, hset_o, hset_s, hset_row, ne_eq, Nat.reduceBEq, beq_self_eq_true, Fin.val_zero, Fin.val_one, fin0, fin1, fin2, fin3, Nat.le_refl, Nat.reduceLeDiff, Nat.zero_le, Int.reduceAdd, Int.reduceNeg, Int.reduceLE, Int.reduceLT, Int.reduceToNat, Int.reduceMul, Int.cast_ofNat_Int, Nat.reduceMod, ↓reduceIte, if_true, if_false, and_true, true_and, or_true, true_or, false_or, or_false, and_self, not_true_eq_false, not_false_eq_true, Bool.false_eq_true, reduceCtorEq, false_implies, true_implies, implies_true, and_false, false_and, dX7_set_0, dX7_set_1, dX7_set_4, dX7_set_7, dX7_set_9, dX7_set_10, dX7_set_11, dX7_set_14, dX7_set_15, dX7_set_18, dX7_set_21, dX7_set_22, dX7_set_23, dX7_set_26, dX7_set_27, dX7_set_28, dX7_set_31, dX7_set_32, dX7_set_33, dX7_set_34, dX7_set_37, dX7_set_40, dX7_set_41, dX7_set_42, dX7_set_45, dX7_set_46, dX7_set_47, dX7_set_48, dX7_set_51, dX7_set_52, dX7_set_53, dX7_set_54, dX7_set_57, dX7_set_60, cpX7, mT_X7_set, SHl_0, SHl_1, SHl_2, SHl_3, SHl_4, SHl_5, SHl_6, SHl_7, SHl_8, SHl_9, SHl_10, SHl_11, SHl_12, SHl_13, SHl_14, SHl_15, SHl_16, SHl_17, SHl_18, SHl_19, SHl_20, SHl_21, SHl_22, SHl_23, SHl_24, SHl_25, SHl_26, SHl_27, SHl_28, SHl_29, SHl_30, SHl_31, SHl_32, SHl_33, SHl_34, SHl_35, SHl_36, SHl_37, SHl_38, SHl_39, SHl_40, SHl_41, SHl_42, SHl_43, SHl_44, SHl_45, SHl_46, SHl_47, SHl_48, SHl_49, SHl_50, SHl_51, SHl_52, SHl_53, SHl_54, SHl_55, SHl_56, SHl_57, S_X5_holds, S_X5_isMissing, S_X5_isRow, S_X5_put, S_X7_fine, S_X7_found]
  by_cases hr : 0 ≤ r ∧ r < 8
  · have h1 := hI.1 r.toNat (by omega)
    (repeat' (first | apply And.intro | intro _)) <;> first | omega | exact hq | (rw [if_pos (by omega)] at hq; exact hq) | (rw [if_neg (by omega)] at hq; exact hq) | (repeat (first | rw [if_pos (by omega)] at hq | rw [if_neg (by omega)] at hq)) <;> exact hq | assumption | exact R32_of _
  · (repeat' (first | apply And.intro | intro _)) <;> first | omega | exact hq | (rw [if_pos (by omega)] at hq; exact hq) | (rw [if_neg (by omega)] at hq; exact hq) | (repeat (first | rw [if_pos (by omega)] at hq | rw [if_neg (by omega)] at hq)) <;> exact hq | assumption | exact R32_of _
def S_X7_copy : MSpec := fun a σ Q => match a with
  | [.inr (.inl 0), .inl r, .inl i, .inl s, .inl j, .inl n] => R32 r ∧ R32 i ∧ R32 s ∧ R32 j ∧ R32 n ∧ iRow σ ∧ (if ¬ (0 ≤ r ∧ r < 8) ∨ ¬ (0 ≤ s ∧ s < 8) then Q (some (.inl (-1000001))) σ else if σ 4 r.toNat = -1 ∨ σ 4 s.toNat = -1 then Q (some (.inl (-1000011))) (hset σ 0 14 1) else if ¬ σ 3 r.toNat = σ 3 s.toNat then Q (some (.inl (-1000015))) (hset σ 0 14 5) else if ¬ (0 ≤ i ∧ 0 ≤ n ∧ n ≤ σ 4 r.toNat - i) ∨ ¬ (0 ≤ j ∧ 0 ≤ n ∧ n ≤ σ 4 s.toNat - j) then Q (some (.inl (-1000012))) (hset σ 0 14 2) else Q (some (.inl n)) (hset (hcpy σ 2 (r * 40 + i) 2 (s * 40 + j) n) 0 14 0))
  | _ => False
theorem rc_X7_copy : ∀ a σ Q, S_X7_copy a σ Q → ∃ (p : Nat) (r : List AV), a = .inr (.inl p) :: r ∧ p < 76 ∧ (SH p).1 = 4 ∧ (SH p).2.1 = 6 := by
  intro a σ Q h
  unfold S_X7_copy at h
  split at h
  · exact ⟨0, _, rfl, by decide, rfl, rfl⟩
  · exact h.elim
def mT_X7_copy (i : Nat) : Option (Nat × Bool × MSpec) := match i with
  | 81 => some (1, false, S_X5_isRow)
  | 86 => some (2, true, S_X7_found)
  | 94 => some (2, true, S_X7_fine)
  | 97 => some (2, true, S_X5_isMissing)
  | 100 => some (4, true, S_X5_holds)
  | 108 => some (3, true, S_X5_ofOneLane)
  | 112 => some (6, true, S_X5_carry)
  | _ => none
theorem mT_X7_copy_ok {l : Launch} {n : Nat} (hn : 1 ≤ n) : ∀ i e, mT_X7_copy i = some e → mV l (rmOf n) RX7 i e := by
  intro i e h
  unfold mT_X7_copy at h
  split at h
  · cases h; exact mvS (lv := 0) mw_X5_isRow (by omega) (by decide) (by decide +kernel) (Or.inl (gtm 274 (by decide +kernel) (by decide +kernel))) ok_X5_isRow
  · cases h; exact mvI (lv := 0) (ci := 6) (T := TX7) (N := 15) mw_X7_found rfl (by omega) (by decide) (by decide +kernel) (gtm 278 (by decide +kernel) (by decide +kernel)) rc_X7_found ok_X7_found
  · cases h; exact mvI (lv := 0) (ci := 6) (T := TX7) (N := 15) mw_X7_fine rfl (by omega) (by decide) (by decide +kernel) (gtm 287 (by decide +kernel) (by decide +kernel)) rc_X7_fine ok_X7_fine
  · cases h; exact mvI (lv := 0) (ci := 4) (T := TX5) (N := 3) mw_X5_isMissing rfl (by omega) (by decide) (by decide +kernel) (gtm 295 (by decide +kernel) (by decide +kernel)) rc_X5_isMissing ok_X5_isMissing
  · cases h; exact mvI (lv := 0) (ci := 4) (T := TX5) (N := 3) mw_X5_holds rfl (by omega) (by decide) (by decide +kernel) (gtm 299 (by decide +kernel) (by decide +kernel)) rc_X5_holds ok_X5_holds
  · cases h; exact mvI (lv := 0) (ci := 4) (T := TX5) (N := 3) mw_X5_ofOneLane rfl (by omega) (by decide) (by decide +kernel) (gtm 311 (by decide +kernel) (by decide +kernel)) rc_X5_ofOneLane ok_X5_ofOneLane
  · cases h; exact mvI (lv := 0) (ci := 4) (T := TX5) (N := 3) mw_X5_carry rfl (by omega) (by decide) (by decide +kernel) (gtm 315 (by decide +kernel) (by decide +kernel)) rc_X5_carry ok_X5_carry
  · cases h
set_option maxRecDepth 100000 in
set_option maxHeartbeats 4000000 in
theorem ok_X7_copy : ∀ l n, 1 ≤ n → ∀ a σ Q, S_X7_copy a σ Q → AM l n yX7_copy cX7_copy 6 (some .int) a σ Q := by
  intro l n hn a σ Q hS
  unfold S_X7_copy at hS
  split at hS
  rotate_left
  · exact hS.elim
  rename_i r i s j n
  obtain ⟨⟨r1, r2⟩, ⟨i1, i2⟩, ⟨s1, s2⟩, ⟨j1, j2⟩, ⟨n1, n2⟩, hI, hq⟩ := hS
  refine am_ofF 1 cpX7 mT_X7_copy (plainFor_of_name (by decide +kernel)) (rfl) (Nat.le_of_ble_eq_true rfl) (cpX7_ok) (mT_X7_copy_ok hn) (fun K hK => ?_)
  refine hK (fun _ => false) 200 _ _ _ _ ?_
  simp only [↓wp, ↓stp, ilen, lnth, st1, st2, nolong, nohead, rnth, ↓gfX, ↓pfX, gfV, pfV, cpF, cpP, cndZ, ↓tgo, ↓tsw, ↓lsw, ↓ldI, ↓ldA, ↓ldL, ↓stI, ↓stA, ↓stL, ↓bin, ↓binD, ↓binL, ↓binDL, ↓una, ↓acV, ↓acK, ↓acpy, ↓inv, entL, nones, List.length_cons, List.length_nil, List.take, List.drop, List.reverse_cons, List.reverse_nil, List.nil_append, List.cons_append, Option.toList_some, Option.toList_none, Nat.reduceAdd, Nat.reduceSub, Nat.reduceLT, Nat.reduceEqDiff, Fin.isValue, aTL, aSZ, Int.toNat_natCast, hset_same, hset_o, hset_s, hset_row, ne_eq, Nat.reduceBEq, beq_self_eq_true, Fin.val_zero, Fin.val_one, fin0, fin1, fin2, fin3, Nat.le_refl, Nat.reduceLeDiff, Nat.zero_le, Int.reduceAdd, Int.reduceNeg, Int.reduceLE, Int.reduceLT, Int.reduceToNat, Int.reduceMul, Int.cast_ofNat_Int, Nat.reduceMod, ↓reduceIte, if_true, if_false, and_true, true_and, or_true, true_or, false_or, or_false, and_self, not_true_eq_false, not_false_eq_true, Bool.false_eq_true, reduceCtorEq, false_implies, true_implies, implies_true, and_false, false_and, dX7_copy_0, dX7_copy_1, dX7_copy_4, dX7_copy_7, dX7_copy_8, dX7_copy_11, dX7_copy_14, dX7_copy_16, dX7_copy_17, dX7_copy_18, dX7_copy_21, dX7_copy_22, dX7_copy_25, dX7_copy_28, dX7_copy_29, dX7_copy_32, dX7_copy_33, dX7_copy_36, dX7_copy_39, dX7_copy_40, dX7_copy_41, dX7_copy_44, dX7_copy_45, dX7_copy_46, dX7_copy_49, dX7_copy_50, dX7_copy_51, dX7_copy_54, dX7_copy_57, dX7_copy_58, dX7_copy_59, dX7_copy_62, dX7_copy_63, dX7_copy_64, dX7_copy_67, dX7_copy_68, dX7_copy_69, dX7_copy_71, dX7_copy_74, dX7_copy_77, dX7_copy_78, dX7_copy_81, dX7_copy_82, dX7_copy_84, dX7_copy_86, dX7_copy_89, dX7_copy_92, dX7_copy_93, dX7_copy_94, dX7_copy_97, dX7_copy_98, dX7_copy_99, dX7_copy_102, dX7_copy_103, dX7_copy_104, dX7_copy_105, dX7_copy_107, dX7_copy_109, dX7_copy_112, dX7_copy_113, dX7_copy_115, dX7_copy_118, cpX7, mT_X7_copy, SHl_0, SHl_1, SHl_2, SHl_3, SHl_4, SHl_5, SHl_6, SHl_7, SHl_8, SHl_9, SHl_10, SHl_11, SHl_12, SHl_13, SHl_14, SHl_15, SHl_16, SHl_17, SHl_18, SHl_19, SHl_20, SHl_21, SHl_22, SHl_23, SHl_24, SHl_25, SHl_26, SHl_27, SHl_28, SHl_29, SHl_30, SHl_31, SHl_32, SHl_33, SHl_34, SHl_35, SHl_36, SHl_37, SHl_38, SHl_39, SHl_40, SHl_41, SHl_42, SHl_43, SHl_44, SHl_45, SHl_46, SHl_47, SHl_48, SHl_49, SHl_50, SHl_51, SHl_52, SHl_53, SHl_54, SHl_55, SHl_56, SHl_57, S_X5_carry, S_X5_holds, S_X5_isMissing, S_X5_isRow, S_X5_ofOneLane, S_X7_fine, S_X7_found]
  by_cases hr : 0 ≤ r ∧ r < 8
  · by_cases hs : 0 ≤ s ∧ s < 8
    · have h1 := hI.1 r.toNat (by omega)
      have h2 := hI.1 s.toNat (by omega)
      (repeat' (first | apply And.intro | intro _)) <;> first | omega | exact hq | (rw [if_pos (by omega)] at hq; exact hq) | (rw [if_neg (by omega)] at hq; exact hq) | (repeat (first | rw [if_pos (by omega)] at hq | rw [if_neg (by omega)] at hq)) <;> exact hq | assumption | exact R32_of _
    · have h1 := hI.1 r.toNat (by omega)
      (repeat' (first | apply And.intro | intro _)) <;> first | omega | exact hq | (rw [if_pos (by omega)] at hq; exact hq) | (rw [if_neg (by omega)] at hq; exact hq) | (repeat (first | rw [if_pos (by omega)] at hq | rw [if_neg (by omega)] at hq)) <;> exact hq | assumption | exact R32_of _
  · (repeat' (first | apply And.intro | intro _)) <;> first | omega | exact hq | (rw [if_pos (by omega)] at hq; exact hq) | (rw [if_neg (by omega)] at hq; exact hq) | (repeat (first | rw [if_pos (by omega)] at hq | rw [if_neg (by omega)] at hq)) <;> exact hq | assumption | exact R32_of _
def S_X7_drop : MSpec := fun a σ Q => match a with
  | [.inr (.inl 0), .inl r] => R32 r ∧ iRow σ ∧ (if ¬ (0 ≤ r ∧ r < 8) then Q (some (.inl (-1000001))) σ else if σ 4 r.toNat = -1 then Q (some (.inl (-1000011))) (hset σ 0 14 1) else Q (some (.inl (σ 4 r.toNat))) (hset (hset σ 4 r.toNat (-1)) 0 14 0))
  | _ => False
theorem rc_X7_drop : ∀ a σ Q, S_X7_drop a σ Q → ∃ (p : Nat) (r : List AV), a = .inr (.inl p) :: r ∧ p < 76 ∧ (SH p).1 = 4 ∧ (SH p).2.1 = 6 := by
  intro a σ Q h
  unfold S_X7_drop at h
  split at h
  · exact ⟨0, _, rfl, by decide, rfl, rfl⟩
  · exact h.elim
def mT_X7_drop (i : Nat) : Option (Nat × Bool × MSpec) := match i with
  | 81 => some (1, false, S_X5_isRow)
  | 86 => some (2, true, S_X7_found)
  | 94 => some (2, true, S_X7_fine)
  | 97 => some (2, true, S_X5_isMissing)
  | 116 => some (2, true, S_X5_lose)
  | _ => none
theorem mT_X7_drop_ok {l : Launch} {n : Nat} (hn : 1 ≤ n) : ∀ i e, mT_X7_drop i = some e → mV l (rmOf n) RX7 i e := by
  intro i e h
  unfold mT_X7_drop at h
  split at h
  · cases h; exact mvS (lv := 0) mw_X5_isRow (by omega) (by decide) (by decide +kernel) (Or.inl (gtm 274 (by decide +kernel) (by decide +kernel))) ok_X5_isRow
  · cases h; exact mvI (lv := 0) (ci := 6) (T := TX7) (N := 15) mw_X7_found rfl (by omega) (by decide) (by decide +kernel) (gtm 278 (by decide +kernel) (by decide +kernel)) rc_X7_found ok_X7_found
  · cases h; exact mvI (lv := 0) (ci := 6) (T := TX7) (N := 15) mw_X7_fine rfl (by omega) (by decide) (by decide +kernel) (gtm 287 (by decide +kernel) (by decide +kernel)) rc_X7_fine ok_X7_fine
  · cases h; exact mvI (lv := 0) (ci := 4) (T := TX5) (N := 3) mw_X5_isMissing rfl (by omega) (by decide) (by decide +kernel) (gtm 295 (by decide +kernel) (by decide +kernel)) rc_X5_isMissing ok_X5_isMissing
  · cases h; exact mvI (lv := 0) (ci := 4) (T := TX5) (N := 3) mw_X5_lose rfl (by omega) (by decide) (by decide +kernel) (gtm 326 (by decide +kernel) (by decide +kernel)) rc_X5_lose ok_X5_lose
  · cases h
set_option maxRecDepth 100000 in
set_option maxHeartbeats 4000000 in
theorem ok_X7_drop : ∀ l n, 1 ≤ n → ∀ a σ Q, S_X7_drop a σ Q → AM l n yX7_drop cX7_drop 2 (some .int) a σ Q := by
  intro l n hn a σ Q hS
  unfold S_X7_drop at hS
  split at hS
  rotate_left
  · exact hS.elim
  rename_i r
  obtain ⟨⟨r1, r2⟩, hI, hq⟩ := hS
  refine am_ofF 1 cpX7 mT_X7_drop (plainFor_of_name (by decide +kernel)) (rfl) (Nat.le_of_ble_eq_true rfl) (cpX7_ok) (mT_X7_drop_ok hn) (fun K hK => ?_)
  refine hK (fun _ => false) 200 _ _ _ _ ?_
  simp only [↓wp, ↓stp, ilen, lnth, st1, st2, nolong, nohead, rnth, ↓gfX, ↓pfX, gfV, pfV, cpF, cpP, cndZ, ↓tgo, ↓tsw, ↓lsw, ↓ldI, ↓ldA, ↓ldL, ↓stI, ↓stA, ↓stL, ↓bin, ↓binD, ↓binL, ↓binDL, ↓una, ↓acV, ↓acK, ↓acpy, ↓inv, entL, nones, List.length_cons, List.length_nil, List.take, List.drop, List.reverse_cons, List.reverse_nil, List.nil_append, List.cons_append, Option.toList_some, Option.toList_none, Nat.reduceAdd, Nat.reduceSub, Nat.reduceLT, Nat.reduceEqDiff, Fin.isValue, aTL, aSZ, Int.toNat_natCast, hset_same, hset_o, hset_s, hset_row, ne_eq, Nat.reduceBEq, beq_self_eq_true, Fin.val_zero, Fin.val_one, fin0, fin1, fin2, fin3, Nat.le_refl, Nat.reduceLeDiff, Nat.zero_le, Int.reduceAdd, Int.reduceNeg, Int.reduceLE, Int.reduceLT, Int.reduceToNat, Int.reduceMul, Int.cast_ofNat_Int, Nat.reduceMod, ↓reduceIte, if_true, if_false, and_true, true_and, or_true, true_or, false_or, or_false, and_self, not_true_eq_false, not_false_eq_true, Bool.false_eq_true, reduceCtorEq, false_implies, true_implies, implies_true, and_false, false_and, dX7_drop_0, dX7_drop_1, dX7_drop_4, dX7_drop_7, dX7_drop_9, dX7_drop_10, dX7_drop_11, dX7_drop_14, dX7_drop_15, dX7_drop_18, dX7_drop_21, dX7_drop_22, dX7_drop_23, dX7_drop_26, dX7_drop_27, dX7_drop_28, dX7_drop_29, dX7_drop_32, dX7_drop_33, dX7_drop_36, dX7_drop_39, cpX7, mT_X7_drop, SHl_0, SHl_1, SHl_2, SHl_3, SHl_4, SHl_5, SHl_6, SHl_7, SHl_8, SHl_9, SHl_10, SHl_11, SHl_12, SHl_13, SHl_14, SHl_15, SHl_16, SHl_17, SHl_18, SHl_19, SHl_20, SHl_21, SHl_22, SHl_23, SHl_24, SHl_25, SHl_26, SHl_27, SHl_28, SHl_29, SHl_30, SHl_31, SHl_32, SHl_33, SHl_34, SHl_35, SHl_36, SHl_37, SHl_38, SHl_39, SHl_40, SHl_41, SHl_42, SHl_43, SHl_44, SHl_45, SHl_46, SHl_47, SHl_48, SHl_49, SHl_50, SHl_51, SHl_52, SHl_53, SHl_54, SHl_55, SHl_56, SHl_57, S_X5_isMissing, S_X5_isRow, S_X5_lose, S_X7_fine, S_X7_found]
  by_cases hr : 0 ≤ r ∧ r < 8
  · have h1 := hI.1 r.toNat (by omega)
    (repeat' (first | apply And.intro | intro _)) <;> first | omega | exact hq | (rw [if_pos (by omega)] at hq; exact hq) | (rw [if_neg (by omega)] at hq; exact hq) | (repeat (first | rw [if_pos (by omega)] at hq | rw [if_neg (by omega)] at hq)) <;> exact hq | assumption | exact R32_of _
  · (repeat' (first | apply And.intro | intro _)) <;> first | omega | exact hq | (rw [if_pos (by omega)] at hq; exact hq) | (rw [if_neg (by omega)] at hq; exact hq) | (repeat (first | rw [if_pos (by omega)] at hq | rw [if_neg (by omega)] at hq)) <;> exact hq | assumption | exact R32_of _
def S_X6_put : MSpec := fun a σ Q => match a with
  | [.inr (.inl 5), .inl v] => (0 ≤ σ 5 1 ∧ σ 5 1 < 130) ∧ Q none (hset (hset σ 6 (σ 5 1).toNat v) 5 1 (σ 5 1 + 1))
  | _ => False
theorem rc_X6_put : ∀ a σ Q, S_X6_put a σ Q → ∃ (p : Nat) (r : List AV), a = .inr (.inl p) :: r ∧ p < 76 ∧ (SH p).1 = 4 ∧ (SH p).2.1 = 5 := by
  intro a σ Q h
  unfold S_X6_put at h
  split at h
  · exact ⟨5, _, rfl, by decide, rfl, rfl⟩
  · exact h.elim
def mT_X6_put (i : Nat) : Option (Nat × Bool × MSpec) := match i with
  | _ => none
theorem mT_X6_put_ok {l : Launch} {n : Nat} (hn : 0 ≤ n) : ∀ i e, mT_X6_put i = some e → mV l (rmOf n) RX6 i e := by
  intro i e h
  unfold mT_X6_put at h
  split at h
  · cases h
set_option maxRecDepth 100000 in
set_option maxHeartbeats 4000000 in
theorem ok_X6_put : ∀ l n, 0 ≤ n → ∀ a σ Q, S_X6_put a σ Q → AM l n yX6_put cX6_put 2 none a σ Q := by
  intro l n hn a σ Q hS
  unfold S_X6_put at hS
  split at hS
  rotate_left
  · exact hS.elim
  rename_i v
  obtain ⟨h1, hq⟩ := hS
  refine am_ofF 0 cpX6 mT_X6_put (plainFor_of_name (by decide +kernel)) (rfl) (Nat.le_of_ble_eq_true rfl) (cpX6_ok) (mT_X6_put_ok hn) (fun K hK => ?_)
  refine hK (fun _ => false) 200 _ _ _ _ ?_
  simp only [↓wp, ↓stp, ilen, lnth, st1, st2, nolong, nohead, rnth, ↓gfX, ↓pfX, gfV, pfV, cpF, cpP, cndZ, ↓tgo, ↓tsw, ↓lsw, ↓ldI, ↓ldA, ↓ldL, ↓stI, ↓stA, ↓stL, ↓bin, ↓binD, ↓binL, ↓binDL, ↓una, ↓acV, ↓acK, ↓acpy, ↓inv, entL, nones, List.length_cons, List.length_nil, List.take, List.drop, List.reverse_cons, List.reverse_nil, List.nil_append, List.cons_append, Option.toList_some, Option.toList_none, Nat.reduceAdd, Nat.reduceSub, Nat.reduceLT, Nat.reduceEqDiff, Fin.isValue, aTL, aSZ, Int.toNat_natCast, hset_same, hset_o, hset_s, hset_row, ne_eq, Nat.reduceBEq, beq_self_eq_true, Fin.val_zero, Fin.val_one, fin0, fin1, fin2, fin3, Nat.le_refl, Nat.reduceLeDiff, Nat.zero_le, Int.reduceAdd, Int.reduceNeg, Int.reduceLE, Int.reduceLT, Int.reduceToNat, Int.reduceMul, Int.cast_ofNat_Int, Nat.reduceMod, ↓reduceIte, if_true, if_false, and_true, true_and, or_true, true_or, false_or, or_false, and_self, not_true_eq_false, not_false_eq_true, Bool.false_eq_true, reduceCtorEq, false_implies, true_implies, implies_true, and_false, false_and, dX6_put_0, dX6_put_1, dX6_put_4, dX6_put_7, dX6_put_10, dX6_put_11, dX6_put_14, dX6_put_15, dX6_put_18, dX6_put_19, dX6_put_20, dX6_put_21, dX6_put_22, dX6_put_25, dX6_put_26, dX6_put_27, dX6_put_30, cpX6, mT_X6_put, SHl_0, SHl_1, SHl_2, SHl_3, SHl_4, SHl_5, SHl_6, SHl_7, SHl_8, SHl_9, SHl_10, SHl_11, SHl_12, SHl_13, SHl_14, SHl_15, SHl_16, SHl_17, SHl_18, SHl_19, SHl_20, SHl_21, SHl_22, SHl_23, SHl_24, SHl_25, SHl_26, SHl_27, SHl_28, SHl_29, SHl_30, SHl_31, SHl_32, SHl_33, SHl_34, SHl_35, SHl_36, SHl_37, SHl_38, SHl_39, SHl_40, SHl_41, SHl_42, SHl_43, SHl_44, SHl_45, SHl_46, SHl_47, SHl_48, SHl_49, SHl_50, SHl_51, SHl_52, SHl_53, SHl_54, SHl_55, SHl_56, SHl_57]
  (repeat' (first | apply And.intro | intro _)) <;> first | omega | exact hq | (rw [if_pos (by omega)] at hq; exact hq) | (rw [if_neg (by omega)] at hq; exact hq) | (repeat (first | rw [if_pos (by omega)] at hq | rw [if_neg (by omega)] at hq)) <;> exact hq | assumption | exact R32_of _
def S_X7_feed : MSpec := fun a σ Q => match a with
  | [.inr (.inl 0), .inl v] => R32 v ∧ (0 ≤ σ 5 1 ∧ σ 5 1 ≤ 130) ∧ (if ¬ (0 ≤ v ∧ v ≤ 255) then Q (some (.inl (-1000001))) σ else if σ 5 1 = 130 then Q (some (.inl (-1000003))) σ else Q (some (.inl (σ 5 1 + 1))) (hset (hset σ 6 (σ 5 1).toNat v) 5 1 (σ 5 1 + 1)))
  | _ => False
theorem rc_X7_feed : ∀ a σ Q, S_X7_feed a σ Q → ∃ (p : Nat) (r : List AV), a = .inr (.inl p) :: r ∧ p < 76 ∧ (SH p).1 = 4 ∧ (SH p).2.1 = 6 := by
  intro a σ Q h
  unfold S_X7_feed at h
  split at h
  · exact ⟨0, _, rfl, by decide, rfl, rfl⟩
  · exact h.elim
def mT_X7_feed (i : Nat) : Option (Nat × Bool × MSpec) := match i with
  | 123 => some (2, true, S_X6_put)
  | _ => none
theorem mT_X7_feed_ok {l : Launch} {n : Nat} (hn : 1 ≤ n) : ∀ i e, mT_X7_feed i = some e → mV l (rmOf n) RX7 i e := by
  intro i e h
  unfold mT_X7_feed at h
  split at h
  · cases h; exact mvI (lv := 0) (ci := 5) (T := TX6) (N := 10) mw_X6_put rfl (by omega) (by decide) (by decide +kernel) (gtm 335 (by decide +kernel) (by decide +kernel)) rc_X6_put ok_X6_put
  · cases h
set_option maxRecDepth 100000 in
set_option maxHeartbeats 4000000 in
theorem ok_X7_feed : ∀ l n, 1 ≤ n → ∀ a σ Q, S_X7_feed a σ Q → AM l n yX7_feed cX7_feed 2 (some .int) a σ Q := by
  intro l n hn a σ Q hS
  unfold S_X7_feed at hS
  split at hS
  rotate_left
  · exact hS.elim
  rename_i v
  obtain ⟨⟨v1, v2⟩, h1, hq⟩ := hS
  refine am_ofF 1 cpX7 mT_X7_feed (plainFor_of_name (by decide +kernel)) (rfl) (Nat.le_of_ble_eq_true rfl) (cpX7_ok) (mT_X7_feed_ok hn) (fun K hK => ?_)
  refine hK (fun _ => false) 200 _ _ _ _ ?_
  simp only [↓wp, ↓stp, ilen, lnth, st1, st2, nolong, nohead, rnth, ↓gfX, ↓pfX, gfV, pfV, cpF, cpP, cndZ, ↓tgo, ↓tsw, ↓lsw, ↓ldI, ↓ldA, ↓ldL, ↓stI, ↓stA, ↓stL, ↓bin, ↓binD, ↓binL, ↓binDL, ↓una, ↓acV, ↓acK, ↓acpy, ↓inv, entL, nones, List.length_cons, List.length_nil, List.take, List.drop, List.reverse_cons, List.reverse_nil, List.nil_append, List.cons_append, Option.toList_some, Option.toList_none, Nat.reduceAdd, Nat.reduceSub, Nat.reduceLT, Nat.reduceEqDiff, Fin.isValue, aTL, aSZ, Int.toNat_natCast, hset_same, hset_o, hset_s, hset_row, ne_eq, Nat.reduceBEq, beq_self_eq_true, Fin.val_zero, Fin.val_one, fin0, fin1, fin2, fin3, Nat.le_refl, Nat.reduceLeDiff, Nat.zero_le, Int.reduceAdd, Int.reduceNeg, Int.reduceLE, Int.reduceLT, Int.reduceToNat, Int.reduceMul, Int.cast_ofNat_Int, Nat.reduceMod, ↓reduceIte, if_true, if_false, and_true, true_and, or_true, true_or, false_or, or_false, and_self, not_true_eq_false, not_false_eq_true, Bool.false_eq_true, reduceCtorEq, false_implies, true_implies, implies_true, and_false, false_and, dX7_feed_0, dX7_feed_1, dX7_feed_4, dX7_feed_5, dX7_feed_8, dX7_feed_11, dX7_feed_13, dX7_feed_14, dX7_feed_15, dX7_feed_18, dX7_feed_21, dX7_feed_24, dX7_feed_27, dX7_feed_29, dX7_feed_30, dX7_feed_31, dX7_feed_34, dX7_feed_35, dX7_feed_38, dX7_feed_39, dX7_feed_42, dX7_feed_45, cpX7, mT_X7_feed, SHl_0, SHl_1, SHl_2, SHl_3, SHl_4, SHl_5, SHl_6, SHl_7, SHl_8, SHl_9, SHl_10, SHl_11, SHl_12, SHl_13, SHl_14, SHl_15, SHl_16, SHl_17, SHl_18, SHl_19, SHl_20, SHl_21, SHl_22, SHl_23, SHl_24, SHl_25, SHl_26, SHl_27, SHl_28, SHl_29, SHl_30, SHl_31, SHl_32, SHl_33, SHl_34, SHl_35, SHl_36, SHl_37, SHl_38, SHl_39, SHl_40, SHl_41, SHl_42, SHl_43, SHl_44, SHl_45, SHl_46, SHl_47, SHl_48, SHl_49, SHl_50, SHl_51, SHl_52, SHl_53, SHl_54, SHl_55, SHl_56, SHl_57, S_X6_put]
  (repeat' (first | apply And.intro | intro _)) <;> first | omega | exact hq | (rw [if_pos (by omega)] at hq; exact hq) | (rw [if_neg (by omega)] at hq; exact hq) | (repeat (first | rw [if_pos (by omega)] at hq | rw [if_neg (by omega)] at hq)) <;> exact hq | assumption | exact R32_of _
def S_X7_fault : MSpec := fun a σ Q => match a with
  | [.inr (.inl 0)] => Q (some (.inl (σ 0 13))) σ
  | _ => False
theorem rc_X7_fault : ∀ a σ Q, S_X7_fault a σ Q → ∃ (p : Nat) (r : List AV), a = .inr (.inl p) :: r ∧ p < 76 ∧ (SH p).1 = 4 ∧ (SH p).2.1 = 6 := by
  intro a σ Q h
  unfold S_X7_fault at h
  split at h
  · exact ⟨0, _, rfl, by decide, rfl, rfl⟩
  · exact h.elim
def mT_X7_fault (i : Nat) : Option (Nat × Bool × MSpec) := match i with
  | _ => none
theorem mT_X7_fault_ok {l : Launch} {n : Nat} (hn : 0 ≤ n) : ∀ i e, mT_X7_fault i = some e → mV l (rmOf n) RX7 i e := by
  intro i e h
  unfold mT_X7_fault at h
  split at h
  · cases h
set_option maxRecDepth 100000 in
set_option maxHeartbeats 4000000 in
theorem ok_X7_fault : ∀ l n, 0 ≤ n → ∀ a σ Q, S_X7_fault a σ Q → AM l n yX7_fault cX7_fault 1 (some .int) a σ Q := by
  intro l n hn a σ Q hS
  unfold S_X7_fault at hS
  split at hS
  rotate_left
  · exact hS.elim
  obtain hq := hS
  refine am_ofF 1 cpX7 mT_X7_fault (plainFor_of_name (by decide +kernel)) (rfl) (Nat.le_of_ble_eq_true rfl) (cpX7_ok) (mT_X7_fault_ok hn) (fun K hK => ?_)
  refine hK (fun _ => false) 200 _ _ _ _ ?_
  simp only [↓wp, ↓stp, ilen, lnth, st1, st2, nolong, nohead, rnth, ↓gfX, ↓pfX, gfV, pfV, cpF, cpP, cndZ, ↓tgo, ↓tsw, ↓lsw, ↓ldI, ↓ldA, ↓ldL, ↓stI, ↓stA, ↓stL, ↓bin, ↓binD, ↓binL, ↓binDL, ↓una, ↓acV, ↓acK, ↓acpy, ↓inv, entL, nones, List.length_cons, List.length_nil, List.take, List.drop, List.reverse_cons, List.reverse_nil, List.nil_append, List.cons_append, Option.toList_some, Option.toList_none, Nat.reduceAdd, Nat.reduceSub, Nat.reduceLT, Nat.reduceEqDiff, Fin.isValue, aTL, aSZ, Int.toNat_natCast, hset_same, hset_o, hset_s, hset_row, ne_eq, Nat.reduceBEq, beq_self_eq_true, Fin.val_zero, Fin.val_one, fin0, fin1, fin2, fin3, Nat.le_refl, Nat.reduceLeDiff, Nat.zero_le, Int.reduceAdd, Int.reduceNeg, Int.reduceLE, Int.reduceLT, Int.reduceToNat, Int.reduceMul, Int.cast_ofNat_Int, Nat.reduceMod, ↓reduceIte, if_true, if_false, and_true, true_and, or_true, true_or, false_or, or_false, and_self, not_true_eq_false, not_false_eq_true, Bool.false_eq_true, reduceCtorEq, false_implies, true_implies, implies_true, and_false, false_and, dX7_fault_0, dX7_fault_1, dX7_fault_4, cpX7, mT_X7_fault, SHl_0, SHl_1, SHl_2, SHl_3, SHl_4, SHl_5, SHl_6, SHl_7, SHl_8, SHl_9, SHl_10, SHl_11, SHl_12, SHl_13, SHl_14, SHl_15, SHl_16, SHl_17, SHl_18, SHl_19, SHl_20, SHl_21, SHl_22, SHl_23, SHl_24, SHl_25, SHl_26, SHl_27, SHl_28, SHl_29, SHl_30, SHl_31, SHl_32, SHl_33, SHl_34, SHl_35, SHl_36, SHl_37, SHl_38, SHl_39, SHl_40, SHl_41, SHl_42, SHl_43, SHl_44, SHl_45, SHl_46, SHl_47, SHl_48, SHl_49, SHl_50, SHl_51, SHl_52, SHl_53, SHl_54, SHl_55, SHl_56, SHl_57]
  exact hS
def S_X7_status : MSpec := fun a σ Q => match a with
  | [.inr (.inl 0)] => Q (some (.inl (σ 0 14))) σ
  | _ => False
theorem rc_X7_status : ∀ a σ Q, S_X7_status a σ Q → ∃ (p : Nat) (r : List AV), a = .inr (.inl p) :: r ∧ p < 76 ∧ (SH p).1 = 4 ∧ (SH p).2.1 = 6 := by
  intro a σ Q h
  unfold S_X7_status at h
  split at h
  · exact ⟨0, _, rfl, by decide, rfl, rfl⟩
  · exact h.elim
def mT_X7_status (i : Nat) : Option (Nat × Bool × MSpec) := match i with
  | _ => none
theorem mT_X7_status_ok {l : Launch} {n : Nat} (hn : 0 ≤ n) : ∀ i e, mT_X7_status i = some e → mV l (rmOf n) RX7 i e := by
  intro i e h
  unfold mT_X7_status at h
  split at h
  · cases h
set_option maxRecDepth 100000 in
set_option maxHeartbeats 4000000 in
theorem ok_X7_status : ∀ l n, 0 ≤ n → ∀ a σ Q, S_X7_status a σ Q → AM l n yX7_status cX7_status 1 (some .int) a σ Q := by
  intro l n hn a σ Q hS
  unfold S_X7_status at hS
  split at hS
  rotate_left
  · exact hS.elim
  obtain hq := hS
  refine am_ofF 1 cpX7 mT_X7_status (plainFor_of_name (by decide +kernel)) (rfl) (Nat.le_of_ble_eq_true rfl) (cpX7_ok) (mT_X7_status_ok hn) (fun K hK => ?_)
  refine hK (fun _ => false) 200 _ _ _ _ ?_
  simp only [↓wp, ↓stp, ilen, lnth, st1, st2, nolong, nohead, rnth, ↓gfX, ↓pfX, gfV, pfV, cpF, cpP, cndZ, ↓tgo, ↓tsw, ↓lsw, ↓ldI, ↓ldA, ↓ldL, ↓stI, ↓stA, ↓stL, ↓bin, ↓binD, ↓binL, ↓binDL, ↓una, ↓acV, ↓acK, ↓acpy, ↓inv, entL, nones, List.length_cons, List.length_nil, List.take, List.drop, List.reverse_cons, List.reverse_nil, List.nil_append, List.cons_append, Option.toList_some, Option.toList_none, Nat.reduceAdd, Nat.reduceSub, Nat.reduceLT, Nat.reduceEqDiff, Fin.isValue, aTL, aSZ, Int.toNat_natCast, hset_same, hset_o, hset_s, hset_row, ne_eq, Nat.reduceBEq, beq_self_eq_true, Fin.val_zero, Fin.val_one, fin0, fin1, fin2, fin3, Nat.le_refl, Nat.reduceLeDiff, Nat.zero_le, Int.reduceAdd, Int.reduceNeg, Int.reduceLE, Int.reduceLT, Int.reduceToNat, Int.reduceMul, Int.cast_ofNat_Int, Nat.reduceMod, ↓reduceIte, if_true, if_false, and_true, true_and, or_true, true_or, false_or, or_false, and_self, not_true_eq_false, not_false_eq_true, Bool.false_eq_true, reduceCtorEq, false_implies, true_implies, implies_true, and_false, false_and, dX7_status_0, dX7_status_1, dX7_status_4, cpX7, mT_X7_status, SHl_0, SHl_1, SHl_2, SHl_3, SHl_4, SHl_5, SHl_6, SHl_7, SHl_8, SHl_9, SHl_10, SHl_11, SHl_12, SHl_13, SHl_14, SHl_15, SHl_16, SHl_17, SHl_18, SHl_19, SHl_20, SHl_21, SHl_22, SHl_23, SHl_24, SHl_25, SHl_26, SHl_27, SHl_28, SHl_29, SHl_30, SHl_31, SHl_32, SHl_33, SHl_34, SHl_35, SHl_36, SHl_37, SHl_38, SHl_39, SHl_40, SHl_41, SHl_42, SHl_43, SHl_44, SHl_45, SHl_46, SHl_47, SHl_48, SHl_49, SHl_50, SHl_51, SHl_52, SHl_53, SHl_54, SHl_55, SHl_56, SHl_57]
  exact hS
def S_X7_isNoPiece : MSpec := fun a σ Q => match a with
  | [.inr (.inl 0)] => (0 ≤ σ 7 1 ∧ σ 7 1 ≤ 10) ∧ Q (some (.inl (if σ 7 1 = 0 then 1 else 0))) σ
  | _ => False
theorem rc_X7_isNoPiece : ∀ a σ Q, S_X7_isNoPiece a σ Q → ∃ (p : Nat) (r : List AV), a = .inr (.inl p) :: r ∧ p < 76 ∧ (SH p).1 = 4 ∧ (SH p).2.1 = 6 := by
  intro a σ Q h
  unfold S_X7_isNoPiece at h
  split at h
  · exact ⟨0, _, rfl, by decide, rfl, rfl⟩
  · exact h.elim
def mT_X7_isNoPiece (i : Nat) : Option (Nat × Bool × MSpec) := match i with
  | _ => none
theorem mT_X7_isNoPiece_ok {l : Launch} {n : Nat} (hn : 0 ≤ n) : ∀ i e, mT_X7_isNoPiece i = some e → mV l (rmOf n) RX7 i e := by
  intro i e h
  unfold mT_X7_isNoPiece at h
  split at h
  · cases h
set_option maxRecDepth 100000 in
set_option maxHeartbeats 4000000 in
theorem ok_X7_isNoPiece : ∀ l n, 0 ≤ n → ∀ a σ Q, S_X7_isNoPiece a σ Q → AM l n yX7_isNoPiece cX7_isNoPiece 1 (some .boolean) a σ Q := by
  intro l n hn a σ Q hS
  unfold S_X7_isNoPiece at hS
  split at hS
  rotate_left
  · exact hS.elim
  obtain ⟨h1, hq⟩ := hS
  refine am_ofF 2 cpX7 mT_X7_isNoPiece (plainFor_of_name (by decide +kernel)) (rfl) (Nat.le_of_ble_eq_true rfl) (cpX7_ok) (mT_X7_isNoPiece_ok hn) (fun K hK => ?_)
  refine hK (fun _ => false) 200 _ _ _ _ ?_
  simp only [↓wp, ↓stp, ilen, lnth, st1, st2, nolong, nohead, rnth, ↓gfX, ↓pfX, gfV, pfV, cpF, cpP, cndZ, ↓tgo, ↓tsw, ↓lsw, ↓ldI, ↓ldA, ↓ldL, ↓stI, ↓stA, ↓stL, ↓bin, ↓binD, ↓binL, ↓binDL, ↓una, ↓acV, ↓acK, ↓acpy, ↓inv, entL, nones, List.length_cons, List.length_nil, List.take, List.drop, List.reverse_cons, List.reverse_nil, List.nil_append, List.cons_append, Option.toList_some, Option.toList_none, Nat.reduceAdd, Nat.reduceSub, Nat.reduceLT, Nat.reduceEqDiff, Fin.isValue, aTL, aSZ, Int.toNat_natCast, hset_same, hset_o, hset_s, hset_row, ne_eq, Nat.reduceBEq, beq_self_eq_true, Fin.val_zero, Fin.val_one, fin0, fin1, fin2, fin3, Nat.le_refl, Nat.reduceLeDiff, Nat.zero_le, Int.reduceAdd, Int.reduceNeg, Int.reduceLE, Int.reduceLT, Int.reduceToNat, Int.reduceMul, Int.cast_ofNat_Int, Nat.reduceMod, ↓reduceIte, if_true, if_false, and_true, true_and, or_true, true_or, false_or, or_false, and_self, not_true_eq_false, not_false_eq_true, Bool.false_eq_true, reduceCtorEq, false_implies, true_implies, implies_true, and_false, false_and, dX7_isNoPiece_0, dX7_isNoPiece_1, dX7_isNoPiece_4, dX7_isNoPiece_7, dX7_isNoPiece_10, dX7_isNoPiece_11, dX7_isNoPiece_14, dX7_isNoPiece_15, cpX7, mT_X7_isNoPiece, SHl_0, SHl_1, SHl_2, SHl_3, SHl_4, SHl_5, SHl_6, SHl_7, SHl_8, SHl_9, SHl_10, SHl_11, SHl_12, SHl_13, SHl_14, SHl_15, SHl_16, SHl_17, SHl_18, SHl_19, SHl_20, SHl_21, SHl_22, SHl_23, SHl_24, SHl_25, SHl_26, SHl_27, SHl_28, SHl_29, SHl_30, SHl_31, SHl_32, SHl_33, SHl_34, SHl_35, SHl_36, SHl_37, SHl_38, SHl_39, SHl_40, SHl_41, SHl_42, SHl_43, SHl_44, SHl_45, SHl_46, SHl_47, SHl_48, SHl_49, SHl_50, SHl_51, SHl_52, SHl_53, SHl_54, SHl_55, SHl_56, SHl_57]
  (repeat' (first | apply And.intro | intro _)) <;> first | omega | exact hq | (rw [if_pos (by omega)] at hq; exact hq) | (rw [if_neg (by omega)] at hq; exact hq) | (repeat (first | rw [if_pos (by omega)] at hq | rw [if_neg (by omega)] at hq)) <;> exact hq | assumption | exact R32_of _
def S_X7_isChord : MSpec := fun a σ Q => match a with
  | [.inr (.inl 0), .inl c] => R32 c ∧ (0 ≤ σ 7 1 ∧ σ 7 1 ≤ 10) ∧ Q (some (.inl (if 0 ≤ c ∧ c < σ 7 1 then 1 else 0))) σ
  | _ => False
theorem rc_X7_isChord : ∀ a σ Q, S_X7_isChord a σ Q → ∃ (p : Nat) (r : List AV), a = .inr (.inl p) :: r ∧ p < 76 ∧ (SH p).1 = 4 ∧ (SH p).2.1 = 6 := by
  intro a σ Q h
  unfold S_X7_isChord at h
  split at h
  · exact ⟨0, _, rfl, by decide, rfl, rfl⟩
  · exact h.elim
def mT_X7_isChord (i : Nat) : Option (Nat × Bool × MSpec) := match i with
  | _ => none
theorem mT_X7_isChord_ok {l : Launch} {n : Nat} (hn : 0 ≤ n) : ∀ i e, mT_X7_isChord i = some e → mV l (rmOf n) RX7 i e := by
  intro i e h
  unfold mT_X7_isChord at h
  split at h
  · cases h
set_option maxRecDepth 100000 in
set_option maxHeartbeats 4000000 in
theorem ok_X7_isChord : ∀ l n, 0 ≤ n → ∀ a σ Q, S_X7_isChord a σ Q → AM l n yX7_isChord cX7_isChord 2 (some .boolean) a σ Q := by
  intro l n hn a σ Q hS
  unfold S_X7_isChord at hS
  split at hS
  rotate_left
  · exact hS.elim
  rename_i c
  obtain ⟨⟨c1, c2⟩, h1, hq⟩ := hS
  refine am_ofF 2 cpX7 mT_X7_isChord (plainFor_of_name (by decide +kernel)) (rfl) (Nat.le_of_ble_eq_true rfl) (cpX7_ok) (mT_X7_isChord_ok hn) (fun K hK => ?_)
  refine hK (fun _ => false) 200 _ _ _ _ ?_
  simp only [↓wp, ↓stp, ilen, lnth, st1, st2, nolong, nohead, rnth, ↓gfX, ↓pfX, gfV, pfV, cpF, cpP, cndZ, ↓tgo, ↓tsw, ↓lsw, ↓ldI, ↓ldA, ↓ldL, ↓stI, ↓stA, ↓stL, ↓bin, ↓binD, ↓binL, ↓binDL, ↓una, ↓acV, ↓acK, ↓acpy, ↓inv, entL, nones, List.length_cons, List.length_nil, List.take, List.drop, List.reverse_cons, List.reverse_nil, List.nil_append, List.cons_append, Option.toList_some, Option.toList_none, Nat.reduceAdd, Nat.reduceSub, Nat.reduceLT, Nat.reduceEqDiff, Fin.isValue, aTL, aSZ, Int.toNat_natCast, hset_same, hset_o, hset_s, hset_row, ne_eq, Nat.reduceBEq, beq_self_eq_true, Fin.val_zero, Fin.val_one, fin0, fin1, fin2, fin3, Nat.le_refl, Nat.reduceLeDiff, Nat.zero_le, Int.reduceAdd, Int.reduceNeg, Int.reduceLE, Int.reduceLT, Int.reduceToNat, Int.reduceMul, Int.cast_ofNat_Int, Nat.reduceMod, ↓reduceIte, if_true, if_false, and_true, true_and, or_true, true_or, false_or, or_false, and_self, not_true_eq_false, not_false_eq_true, Bool.false_eq_true, reduceCtorEq, false_implies, true_implies, implies_true, and_false, false_and, dX7_isChord_0, dX7_isChord_1, dX7_isChord_4, dX7_isChord_5, dX7_isChord_6, dX7_isChord_9, dX7_isChord_12, dX7_isChord_15, dX7_isChord_16, dX7_isChord_19, dX7_isChord_20, cpX7, mT_X7_isChord, SHl_0, SHl_1, SHl_2, SHl_3, SHl_4, SHl_5, SHl_6, SHl_7, SHl_8, SHl_9, SHl_10, SHl_11, SHl_12, SHl_13, SHl_14, SHl_15, SHl_16, SHl_17, SHl_18, SHl_19, SHl_20, SHl_21, SHl_22, SHl_23, SHl_24, SHl_25, SHl_26, SHl_27, SHl_28, SHl_29, SHl_30, SHl_31, SHl_32, SHl_33, SHl_34, SHl_35, SHl_36, SHl_37, SHl_38, SHl_39, SHl_40, SHl_41, SHl_42, SHl_43, SHl_44, SHl_45, SHl_46, SHl_47, SHl_48, SHl_49, SHl_50, SHl_51, SHl_52, SHl_53, SHl_54, SHl_55, SHl_56, SHl_57]
  (repeat' (first | apply And.intro | intro _)) <;> first | omega | exact hq | (rw [if_pos (by omega)] at hq; exact hq) | (rw [if_neg (by omega)] at hq; exact hq) | (repeat (first | rw [if_pos (by omega)] at hq | rw [if_neg (by omega)] at hq)) <;> exact hq | assumption | exact R32_of _
def S_X7_isNote : MSpec := fun a σ Q => match a with
  | [.inr (.inl 0), .inl c] => R32 c ∧ (0 ≤ σ 7 2 ∧ σ 7 2 ≤ 40) ∧ Q (some (.inl (if 0 ≤ c ∧ c < σ 7 2 then 1 else 0))) σ
  | _ => False
theorem rc_X7_isNote : ∀ a σ Q, S_X7_isNote a σ Q → ∃ (p : Nat) (r : List AV), a = .inr (.inl p) :: r ∧ p < 76 ∧ (SH p).1 = 4 ∧ (SH p).2.1 = 6 := by
  intro a σ Q h
  unfold S_X7_isNote at h
  split at h
  · exact ⟨0, _, rfl, by decide, rfl, rfl⟩
  · exact h.elim
def mT_X7_isNote (i : Nat) : Option (Nat × Bool × MSpec) := match i with
  | _ => none
theorem mT_X7_isNote_ok {l : Launch} {n : Nat} (hn : 0 ≤ n) : ∀ i e, mT_X7_isNote i = some e → mV l (rmOf n) RX7 i e := by
  intro i e h
  unfold mT_X7_isNote at h
  split at h
  · cases h
set_option maxRecDepth 100000 in
set_option maxHeartbeats 4000000 in
theorem ok_X7_isNote : ∀ l n, 0 ≤ n → ∀ a σ Q, S_X7_isNote a σ Q → AM l n yX7_isNote cX7_isNote 2 (some .boolean) a σ Q := by
  intro l n hn a σ Q hS
  unfold S_X7_isNote at hS
  split at hS
  rotate_left
  · exact hS.elim
  rename_i c
  obtain ⟨⟨c1, c2⟩, h1, hq⟩ := hS
  refine am_ofF 2 cpX7 mT_X7_isNote (plainFor_of_name (by decide +kernel)) (rfl) (Nat.le_of_ble_eq_true rfl) (cpX7_ok) (mT_X7_isNote_ok hn) (fun K hK => ?_)
  refine hK (fun _ => false) 200 _ _ _ _ ?_
  simp only [↓wp, ↓stp, ilen, lnth, st1, st2, nolong, nohead, rnth, ↓gfX, ↓pfX, gfV, pfV, cpF, cpP, cndZ, ↓tgo, ↓tsw, ↓lsw, ↓ldI, ↓ldA, ↓ldL, ↓stI, ↓stA, ↓stL, ↓bin, ↓binD, ↓binL, ↓binDL, ↓una, ↓acV, ↓acK, ↓acpy, ↓inv, entL, nones, List.length_cons, List.length_nil, List.take, List.drop, List.reverse_cons, List.reverse_nil, List.nil_append, List.cons_append, Option.toList_some, Option.toList_none, Nat.reduceAdd, Nat.reduceSub, Nat.reduceLT, Nat.reduceEqDiff, Fin.isValue, aTL, aSZ, Int.toNat_natCast, hset_same, hset_o, hset_s, hset_row, ne_eq, Nat.reduceBEq, beq_self_eq_true, Fin.val_zero, Fin.val_one, fin0, fin1, fin2, fin3, Nat.le_refl, Nat.reduceLeDiff, Nat.zero_le, Int.reduceAdd, Int.reduceNeg, Int.reduceLE, Int.reduceLT, Int.reduceToNat, Int.reduceMul, Int.cast_ofNat_Int, Nat.reduceMod, ↓reduceIte, if_true, if_false, and_true, true_and, or_true, true_or, false_or, or_false, and_self, not_true_eq_false, not_false_eq_true, Bool.false_eq_true, reduceCtorEq, false_implies, true_implies, implies_true, and_false, false_and, dX7_isNote_0, dX7_isNote_1, dX7_isNote_4, dX7_isNote_5, dX7_isNote_6, dX7_isNote_9, dX7_isNote_12, dX7_isNote_15, dX7_isNote_16, dX7_isNote_19, dX7_isNote_20, cpX7, mT_X7_isNote, SHl_0, SHl_1, SHl_2, SHl_3, SHl_4, SHl_5, SHl_6, SHl_7, SHl_8, SHl_9, SHl_10, SHl_11, SHl_12, SHl_13, SHl_14, SHl_15, SHl_16, SHl_17, SHl_18, SHl_19, SHl_20, SHl_21, SHl_22, SHl_23, SHl_24, SHl_25, SHl_26, SHl_27, SHl_28, SHl_29, SHl_30, SHl_31, SHl_32, SHl_33, SHl_34, SHl_35, SHl_36, SHl_37, SHl_38, SHl_39, SHl_40, SHl_41, SHl_42, SHl_43, SHl_44, SHl_45, SHl_46, SHl_47, SHl_48, SHl_49, SHl_50, SHl_51, SHl_52, SHl_53, SHl_54, SHl_55, SHl_56, SHl_57]
  (repeat' (first | apply And.intro | intro _)) <;> first | omega | exact hq | (rw [if_pos (by omega)] at hq; exact hq) | (rw [if_neg (by omega)] at hq; exact hq) | (repeat (first | rw [if_pos (by omega)] at hq | rw [if_neg (by omega)] at hq)) <;> exact hq | assumption | exact R32_of _
def S_X7_isKey : MSpec := fun a σ Q => match a with
  | [.inl v] => R32 v ∧ Q (some (.inl (if 0 ≤ v ∧ v < 12 then 1 else 0))) σ
  | _ => False
def mT_X7_isKey (i : Nat) : Option (Nat × Bool × MSpec) := match i with
  | _ => none
theorem mT_X7_isKey_ok {l : Launch} {n : Nat} (hn : 0 ≤ n) : ∀ i e, mT_X7_isKey i = some e → mV l (rmOf n) RX7 i e := by
  intro i e h
  unfold mT_X7_isKey at h
  split at h
  · cases h
set_option maxRecDepth 100000 in
set_option maxHeartbeats 4000000 in
theorem ok_X7_isKey : ∀ l n, 0 ≤ n → ∀ a σ Q, S_X7_isKey a σ Q → AM l n yX7_isKey cX7_isKey 1 (some .boolean) a σ Q := by
  intro l n hn a σ Q hS
  unfold S_X7_isKey at hS
  split at hS
  rotate_left
  · exact hS.elim
  rename_i c
  obtain ⟨⟨c1, c2⟩, hq⟩ := hS
  refine am_ofF 2 cpX7 mT_X7_isKey (plainFor_of_name (by decide +kernel)) (rfl) (Nat.le_of_ble_eq_true rfl) (cpX7_ok) (mT_X7_isKey_ok hn) (fun K hK => ?_)
  refine hK (fun _ => false) 200 _ _ _ _ ?_
  simp only [↓wp, ↓stp, ilen, lnth, st1, st2, nolong, nohead, rnth, ↓gfX, ↓pfX, gfV, pfV, cpF, cpP, cndZ, ↓tgo, ↓tsw, ↓lsw, ↓ldI, ↓ldA, ↓ldL, ↓stI, ↓stA, ↓stL, ↓bin, ↓binD, ↓binL, ↓binDL, ↓una, ↓acV, ↓acK, ↓acpy, ↓inv, entL, nones, List.length_cons, List.length_nil, List.take, List.drop, List.reverse_cons, List.reverse_nil, List.nil_append, List.cons_append, Option.toList_some, Option.toList_none, Nat.reduceAdd, Nat.reduceSub, Nat.reduceLT, Nat.reduceEqDiff, Fin.isValue, aTL, aSZ, Int.toNat_natCast, hset_same, hset_o, hset_s, hset_row, ne_eq, Nat.reduceBEq, beq_self_eq_true, Fin.val_zero, Fin.val_one, fin0, fin1, fin2, fin3, Nat.le_refl, Nat.reduceLeDiff, Nat.zero_le, Int.reduceAdd, Int.reduceNeg, Int.reduceLE, Int.reduceLT, Int.reduceToNat, Int.reduceMul, Int.cast_ofNat_Int, Nat.reduceMod, ↓reduceIte, if_true, if_false, and_true, true_and, or_true, true_or, false_or, or_false, and_self, not_true_eq_false, not_false_eq_true, Bool.false_eq_true, reduceCtorEq, false_implies, true_implies, implies_true, and_false, false_and, dX7_isKey_0, dX7_isKey_1, dX7_isKey_4, dX7_isKey_5, dX7_isKey_7, dX7_isKey_10, dX7_isKey_11, dX7_isKey_14, dX7_isKey_15, cpX7, mT_X7_isKey, SHl_0, SHl_1, SHl_2, SHl_3, SHl_4, SHl_5, SHl_6, SHl_7, SHl_8, SHl_9, SHl_10, SHl_11, SHl_12, SHl_13, SHl_14, SHl_15, SHl_16, SHl_17, SHl_18, SHl_19, SHl_20, SHl_21, SHl_22, SHl_23, SHl_24, SHl_25, SHl_26, SHl_27, SHl_28, SHl_29, SHl_30, SHl_31, SHl_32, SHl_33, SHl_34, SHl_35, SHl_36, SHl_37, SHl_38, SHl_39, SHl_40, SHl_41, SHl_42, SHl_43, SHl_44, SHl_45, SHl_46, SHl_47, SHl_48, SHl_49, SHl_50, SHl_51, SHl_52, SHl_53, SHl_54, SHl_55, SHl_56, SHl_57]
  (repeat' (first | apply And.intro | intro _)) <;> first | omega | exact hq | (rw [if_pos (by omega)] at hq; exact hq) | (rw [if_neg (by omega)] at hq; exact hq) | (repeat (first | rw [if_pos (by omega)] at hq | rw [if_neg (by omega)] at hq)) <;> exact hq | assumption | exact R32_of _
def S_X7_isSignature : MSpec := fun a σ Q => match a with
  | [.inl v] => R32 v ∧ Q (some (.inl (if 0 ≤ v ∧ v < 15 then 1 else 0))) σ
  | _ => False
def mT_X7_isSignature (i : Nat) : Option (Nat × Bool × MSpec) := match i with
  | _ => none
theorem mT_X7_isSignature_ok {l : Launch} {n : Nat} (hn : 0 ≤ n) : ∀ i e, mT_X7_isSignature i = some e → mV l (rmOf n) RX7 i e := by
  intro i e h
  unfold mT_X7_isSignature at h
  split at h
  · cases h
set_option maxRecDepth 100000 in
set_option maxHeartbeats 4000000 in
theorem ok_X7_isSignature : ∀ l n, 0 ≤ n → ∀ a σ Q, S_X7_isSignature a σ Q → AM l n yX7_isSignature cX7_isSignature 1 (some .boolean) a σ Q := by
  intro l n hn a σ Q hS
  unfold S_X7_isSignature at hS
  split at hS
  rotate_left
  · exact hS.elim
  rename_i c
  obtain ⟨⟨c1, c2⟩, hq⟩ := hS
  refine am_ofF 2 cpX7 mT_X7_isSignature (plainFor_of_name (by decide +kernel)) (rfl) (Nat.le_of_ble_eq_true rfl) (cpX7_ok) (mT_X7_isSignature_ok hn) (fun K hK => ?_)
  refine hK (fun _ => false) 200 _ _ _ _ ?_
  simp only [↓wp, ↓stp, ilen, lnth, st1, st2, nolong, nohead, rnth, ↓gfX, ↓pfX, gfV, pfV, cpF, cpP, cndZ, ↓tgo, ↓tsw, ↓lsw, ↓ldI, ↓ldA, ↓ldL, ↓stI, ↓stA, ↓stL, ↓bin, ↓binD, ↓binL, ↓binDL, ↓una, ↓acV, ↓acK, ↓acpy, ↓inv, entL, nones, List.length_cons, List.length_nil, List.take, List.drop, List.reverse_cons, List.reverse_nil, List.nil_append, List.cons_append, Option.toList_some, Option.toList_none, Nat.reduceAdd, Nat.reduceSub, Nat.reduceLT, Nat.reduceEqDiff, Fin.isValue, aTL, aSZ, Int.toNat_natCast, hset_same, hset_o, hset_s, hset_row, ne_eq, Nat.reduceBEq, beq_self_eq_true, Fin.val_zero, Fin.val_one, fin0, fin1, fin2, fin3, Nat.le_refl, Nat.reduceLeDiff, Nat.zero_le, Int.reduceAdd, Int.reduceNeg, Int.reduceLE, Int.reduceLT, Int.reduceToNat, Int.reduceMul, Int.cast_ofNat_Int, Nat.reduceMod, ↓reduceIte, if_true, if_false, and_true, true_and, or_true, true_or, false_or, or_false, and_self, not_true_eq_false, not_false_eq_true, Bool.false_eq_true, reduceCtorEq, false_implies, true_implies, implies_true, and_false, false_and, dX7_isSignature_0, dX7_isSignature_1, dX7_isSignature_4, dX7_isSignature_5, dX7_isSignature_7, dX7_isSignature_10, dX7_isSignature_11, dX7_isSignature_14, dX7_isSignature_15, cpX7, mT_X7_isSignature, SHl_0, SHl_1, SHl_2, SHl_3, SHl_4, SHl_5, SHl_6, SHl_7, SHl_8, SHl_9, SHl_10, SHl_11, SHl_12, SHl_13, SHl_14, SHl_15, SHl_16, SHl_17, SHl_18, SHl_19, SHl_20, SHl_21, SHl_22, SHl_23, SHl_24, SHl_25, SHl_26, SHl_27, SHl_28, SHl_29, SHl_30, SHl_31, SHl_32, SHl_33, SHl_34, SHl_35, SHl_36, SHl_37, SHl_38, SHl_39, SHl_40, SHl_41, SHl_42, SHl_43, SHl_44, SHl_45, SHl_46, SHl_47, SHl_48, SHl_49, SHl_50, SHl_51, SHl_52, SHl_53, SHl_54, SHl_55, SHl_56, SHl_57]
  (repeat' (first | apply And.intro | intro _)) <;> first | omega | exact hq | (rw [if_pos (by omega)] at hq; exact hq) | (rw [if_neg (by omega)] at hq; exact hq) | (repeat (first | rw [if_pos (by omega)] at hq | rw [if_neg (by omega)] at hq)) <;> exact hq | assumption | exact R32_of _
def S_X7_isWindow : MSpec := fun a σ Q => match a with
  | [.inl v] => R32 v ∧ Q (some (.inl (if -15 ≤ v ∧ v ≤ 8 then 1 else 0))) σ
  | _ => False
def mT_X7_isWindow (i : Nat) : Option (Nat × Bool × MSpec) := match i with
  | _ => none
theorem mT_X7_isWindow_ok {l : Launch} {n : Nat} (hn : 0 ≤ n) : ∀ i e, mT_X7_isWindow i = some e → mV l (rmOf n) RX7 i e := by
  intro i e h
  unfold mT_X7_isWindow at h
  split at h
  · cases h
set_option maxRecDepth 100000 in
set_option maxHeartbeats 4000000 in
theorem ok_X7_isWindow : ∀ l n, 0 ≤ n → ∀ a σ Q, S_X7_isWindow a σ Q → AM l n yX7_isWindow cX7_isWindow 1 (some .boolean) a σ Q := by
  intro l n hn a σ Q hS
  unfold S_X7_isWindow at hS
  split at hS
  rotate_left
  · exact hS.elim
  rename_i c
  obtain ⟨⟨c1, c2⟩, hq⟩ := hS
  refine am_ofF 2 cpX7 mT_X7_isWindow (plainFor_of_name (by decide +kernel)) (rfl) (Nat.le_of_ble_eq_true rfl) (cpX7_ok) (mT_X7_isWindow_ok hn) (fun K hK => ?_)
  refine hK (fun _ => false) 200 _ _ _ _ ?_
  simp only [↓wp, ↓stp, ilen, lnth, st1, st2, nolong, nohead, rnth, ↓gfX, ↓pfX, gfV, pfV, cpF, cpP, cndZ, ↓tgo, ↓tsw, ↓lsw, ↓ldI, ↓ldA, ↓ldL, ↓stI, ↓stA, ↓stL, ↓bin, ↓binD, ↓binL, ↓binDL, ↓una, ↓acV, ↓acK, ↓acpy, ↓inv, entL, nones, List.length_cons, List.length_nil, List.take, List.drop, List.reverse_cons, List.reverse_nil, List.nil_append, List.cons_append, Option.toList_some, Option.toList_none, Nat.reduceAdd, Nat.reduceSub, Nat.reduceLT, Nat.reduceEqDiff, Fin.isValue, aTL, aSZ, Int.toNat_natCast, hset_same, hset_o, hset_s, hset_row, ne_eq, Nat.reduceBEq, beq_self_eq_true, Fin.val_zero, Fin.val_one, fin0, fin1, fin2, fin3, Nat.le_refl, Nat.reduceLeDiff, Nat.zero_le, Int.reduceAdd, Int.reduceNeg, Int.reduceLE, Int.reduceLT, Int.reduceToNat, Int.reduceMul, Int.cast_ofNat_Int, Nat.reduceMod, ↓reduceIte, if_true, if_false, and_true, true_and, or_true, true_or, false_or, or_false, and_self, not_true_eq_false, not_false_eq_true, Bool.false_eq_true, reduceCtorEq, false_implies, true_implies, implies_true, and_false, false_and, dX7_isWindow_0, dX7_isWindow_1, dX7_isWindow_3, dX7_isWindow_6, dX7_isWindow_7, dX7_isWindow_9, dX7_isWindow_12, dX7_isWindow_13, dX7_isWindow_16, dX7_isWindow_17, cpX7, mT_X7_isWindow, SHl_0, SHl_1, SHl_2, SHl_3, SHl_4, SHl_5, SHl_6, SHl_7, SHl_8, SHl_9, SHl_10, SHl_11, SHl_12, SHl_13, SHl_14, SHl_15, SHl_16, SHl_17, SHl_18, SHl_19, SHl_20, SHl_21, SHl_22, SHl_23, SHl_24, SHl_25, SHl_26, SHl_27, SHl_28, SHl_29, SHl_30, SHl_31, SHl_32, SHl_33, SHl_34, SHl_35, SHl_36, SHl_37, SHl_38, SHl_39, SHl_40, SHl_41, SHl_42, SHl_43, SHl_44, SHl_45, SHl_46, SHl_47, SHl_48, SHl_49, SHl_50, SHl_51, SHl_52, SHl_53, SHl_54, SHl_55, SHl_56, SHl_57]
  (repeat' (first | apply And.intro | intro _)) <;> first | omega | exact hq | (rw [if_pos (by omega)] at hq; exact hq) | (rw [if_neg (by omega)] at hq; exact hq) | (repeat (first | rw [if_pos (by omega)] at hq | rw [if_neg (by omega)] at hq)) <;> exact hq | assumption | exact R32_of _
def S_X7_changed : MSpec := fun a σ Q => match a with
  | [.inr (.inl 0)] => Q none (hset (hset σ 0 9 1) 0 10 1)
  | _ => False
theorem rc_X7_changed : ∀ a σ Q, S_X7_changed a σ Q → ∃ (p : Nat) (r : List AV), a = .inr (.inl p) :: r ∧ p < 76 ∧ (SH p).1 = 4 ∧ (SH p).2.1 = 6 := by
  intro a σ Q h
  unfold S_X7_changed at h
  split at h
  · exact ⟨0, _, rfl, by decide, rfl, rfl⟩
  · exact h.elim
def mT_X7_changed (i : Nat) : Option (Nat × Bool × MSpec) := match i with
  | _ => none
theorem mT_X7_changed_ok {l : Launch} {n : Nat} (hn : 0 ≤ n) : ∀ i e, mT_X7_changed i = some e → mV l (rmOf n) RX7 i e := by
  intro i e h
  unfold mT_X7_changed at h
  split at h
  · cases h
set_option maxRecDepth 100000 in
set_option maxHeartbeats 4000000 in
theorem ok_X7_changed : ∀ l n, 0 ≤ n → ∀ a σ Q, S_X7_changed a σ Q → AM l n yX7_changed cX7_changed 1 none a σ Q := by
  intro l n hn a σ Q hS
  unfold S_X7_changed at hS
  split at hS
  rotate_left
  · exact hS.elim
  obtain hq := hS
  refine am_ofF 0 cpX7 mT_X7_changed (plainFor_of_name (by decide +kernel)) (rfl) (Nat.le_of_ble_eq_true rfl) (cpX7_ok) (mT_X7_changed_ok hn) (fun K hK => ?_)
  refine hK (fun _ => false) 200 _ _ _ _ ?_
  simp only [↓wp, ↓stp, ilen, lnth, st1, st2, nolong, nohead, rnth, ↓gfX, ↓pfX, gfV, pfV, cpF, cpP, cndZ, ↓tgo, ↓tsw, ↓lsw, ↓ldI, ↓ldA, ↓ldL, ↓stI, ↓stA, ↓stL, ↓bin, ↓binD, ↓binL, ↓binDL, ↓una, ↓acV, ↓acK, ↓acpy, ↓inv, entL, nones, List.length_cons, List.length_nil, List.take, List.drop, List.reverse_cons, List.reverse_nil, List.nil_append, List.cons_append, Option.toList_some, Option.toList_none, Nat.reduceAdd, Nat.reduceSub, Nat.reduceLT, Nat.reduceEqDiff, Fin.isValue, aTL, aSZ, Int.toNat_natCast, hset_same, hset_o, hset_s, hset_row, ne_eq, Nat.reduceBEq, beq_self_eq_true, Fin.val_zero, Fin.val_one, fin0, fin1, fin2, fin3, Nat.le_refl, Nat.reduceLeDiff, Nat.zero_le, Int.reduceAdd, Int.reduceNeg, Int.reduceLE, Int.reduceLT, Int.reduceToNat, Int.reduceMul, Int.cast_ofNat_Int, Nat.reduceMod, ↓reduceIte, if_true, if_false, and_true, true_and, or_true, true_or, false_or, or_false, and_self, not_true_eq_false, not_false_eq_true, Bool.false_eq_true, reduceCtorEq, false_implies, true_implies, implies_true, and_false, false_and, dX7_changed_0, dX7_changed_1, dX7_changed_2, dX7_changed_5, dX7_changed_6, dX7_changed_7, dX7_changed_10, cpX7, mT_X7_changed, SHl_0, SHl_1, SHl_2, SHl_3, SHl_4, SHl_5, SHl_6, SHl_7, SHl_8, SHl_9, SHl_10, SHl_11, SHl_12, SHl_13, SHl_14, SHl_15, SHl_16, SHl_17, SHl_18, SHl_19, SHl_20, SHl_21, SHl_22, SHl_23, SHl_24, SHl_25, SHl_26, SHl_27, SHl_28, SHl_29, SHl_30, SHl_31, SHl_32, SHl_33, SHl_34, SHl_35, SHl_36, SHl_37, SHl_38, SHl_39, SHl_40, SHl_41, SHl_42, SHl_43, SHl_44, SHl_45, SHl_46, SHl_47, SHl_48, SHl_49, SHl_50, SHl_51, SHl_52, SHl_53, SHl_54, SHl_55, SHl_56, SHl_57]
  (repeat' (first | apply And.intro | intro _)) <;> first | omega | exact hq | (rw [if_pos (by omega)] at hq; exact hq) | (rw [if_neg (by omega)] at hq; exact hq) | (repeat (first | rw [if_pos (by omega)] at hq | rw [if_neg (by omega)] at hq)) <;> exact hq | assumption | exact R32_of _
def S_X0_forgetAll : MSpec := fun a σ Q => match a with
  | [.inr (.inl 38)] => Q none (hset σ 38 0 0)
  | _ => False
theorem rc_X0_forgetAll : ∀ a σ Q, S_X0_forgetAll a σ Q → ∃ (p : Nat) (r : List AV), a = .inr (.inl p) :: r ∧ p < 76 ∧ (SH p).1 = 4 ∧ (SH p).2.1 = 0 := by
  intro a σ Q h
  unfold S_X0_forgetAll at h
  split at h
  · exact ⟨38, _, rfl, by decide, rfl, rfl⟩
  · exact h.elim
def mT_X0_forgetAll (i : Nat) : Option (Nat × Bool × MSpec) := match i with
  | _ => none
theorem mT_X0_forgetAll_ok {l : Launch} {n : Nat} (hn : 0 ≤ n) : ∀ i e, mT_X0_forgetAll i = some e → mV l (rmOf n) RX0 i e := by
  intro i e h
  unfold mT_X0_forgetAll at h
  split at h
  · cases h
set_option maxRecDepth 100000 in
set_option maxHeartbeats 4000000 in
theorem ok_X0_forgetAll : ∀ l n, 0 ≤ n → ∀ a σ Q, S_X0_forgetAll a σ Q → AM l n yX0_forgetAll cX0_forgetAll 1 none a σ Q := by
  intro l n hn a σ Q hS
  unfold S_X0_forgetAll at hS
  split at hS
  rotate_left
  · exact hS.elim
  obtain hq := hS
  refine am_ofF 0 cpX0 mT_X0_forgetAll (plainFor_of_name (by decide +kernel)) (rfl) (Nat.le_of_ble_eq_true rfl) (cpX0_ok) (mT_X0_forgetAll_ok hn) (fun K hK => ?_)
  refine hK (fun _ => false) 200 _ _ _ _ ?_
  simp only [↓wp, ↓stp, ilen, lnth, st1, st2, nolong, nohead, rnth, ↓gfX, ↓pfX, gfV, pfV, cpF, cpP, cndZ, ↓tgo, ↓tsw, ↓lsw, ↓ldI, ↓ldA, ↓ldL, ↓stI, ↓stA, ↓stL, ↓bin, ↓binD, ↓binL, ↓binDL, ↓una, ↓acV, ↓acK, ↓acpy, ↓inv, entL, nones, List.length_cons, List.length_nil, List.take, List.drop, List.reverse_cons, List.reverse_nil, List.nil_append, List.cons_append, Option.toList_some, Option.toList_none, Nat.reduceAdd, Nat.reduceSub, Nat.reduceLT, Nat.reduceEqDiff, Fin.isValue, aTL, aSZ, Int.toNat_natCast, hset_same, hset_o, hset_s, hset_row, ne_eq, Nat.reduceBEq, beq_self_eq_true, Fin.val_zero, Fin.val_one, fin0, fin1, fin2, fin3, Nat.le_refl, Nat.reduceLeDiff, Nat.zero_le, Int.reduceAdd, Int.reduceNeg, Int.reduceLE, Int.reduceLT, Int.reduceToNat, Int.reduceMul, Int.cast_ofNat_Int, Nat.reduceMod, ↓reduceIte, if_true, if_false, and_true, true_and, or_true, true_or, false_or, or_false, and_self, not_true_eq_false, not_false_eq_true, Bool.false_eq_true, reduceCtorEq, false_implies, true_implies, implies_true, and_false, false_and, dX0_forgetAll_0, dX0_forgetAll_1, dX0_forgetAll_2, dX0_forgetAll_5, cpX0, mT_X0_forgetAll, SHl_0, SHl_1, SHl_2, SHl_3, SHl_4, SHl_5, SHl_6, SHl_7, SHl_8, SHl_9, SHl_10, SHl_11, SHl_12, SHl_13, SHl_14, SHl_15, SHl_16, SHl_17, SHl_18, SHl_19, SHl_20, SHl_21, SHl_22, SHl_23, SHl_24, SHl_25, SHl_26, SHl_27, SHl_28, SHl_29, SHl_30, SHl_31, SHl_32, SHl_33, SHl_34, SHl_35, SHl_36, SHl_37, SHl_38, SHl_39, SHl_40, SHl_41, SHl_42, SHl_43, SHl_44, SHl_45, SHl_46, SHl_47, SHl_48, SHl_49, SHl_50, SHl_51, SHl_52, SHl_53, SHl_54, SHl_55, SHl_56, SHl_57]
  (repeat' (first | apply And.intro | intro _)) <;> first | omega | exact hq | (rw [if_pos (by omega)] at hq; exact hq) | (rw [if_neg (by omega)] at hq; exact hq) | (repeat (first | rw [if_pos (by omega)] at hq | rw [if_neg (by omega)] at hq)) <;> exact hq | assumption | exact R32_of _
def S_X7_trace : MSpec := fun a σ Q => match a with
  | [.inr (.inl 0), .inl i] => R32 i ∧ (0 ≤ σ 42 0 ∧ σ 42 0 ≤ 16) ∧ Q (some (.inl (if 0 ≤ i ∧ i < σ 42 0 then σ 43 i.toNat else -1000000))) σ
  | _ => False
theorem rc_X7_trace : ∀ a σ Q, S_X7_trace a σ Q → ∃ (p : Nat) (r : List AV), a = .inr (.inl p) :: r ∧ p < 76 ∧ (SH p).1 = 4 ∧ (SH p).2.1 = 6 := by
  intro a σ Q h
  unfold S_X7_trace at h
  split at h
  · exact ⟨0, _, rfl, by decide, rfl, rfl⟩
  · exact h.elim
def mT_X7_trace (i : Nat) : Option (Nat × Bool × MSpec) := match i with
  | _ => none
theorem mT_X7_trace_ok {l : Launch} {n : Nat} (hn : 0 ≤ n) : ∀ i e, mT_X7_trace i = some e → mV l (rmOf n) RX7 i e := by
  intro i e h
  unfold mT_X7_trace at h
  split at h
  · cases h
set_option maxRecDepth 100000 in
set_option maxHeartbeats 4000000 in
theorem ok_X7_trace : ∀ l n, 0 ≤ n → ∀ a σ Q, S_X7_trace a σ Q → AM l n yX7_trace cX7_trace 2 (some .int) a σ Q := by
  intro l n hn a σ Q hS
  unfold S_X7_trace at hS
  split at hS
  rotate_left
  · exact hS.elim
  rename_i c
  obtain ⟨⟨c1, c2⟩, h1, hq⟩ := hS
  refine am_ofF 1 cpX7 mT_X7_trace (plainFor_of_name (by decide +kernel)) (rfl) (Nat.le_of_ble_eq_true rfl) (cpX7_ok) (mT_X7_trace_ok hn) (fun K hK => ?_)
  refine hK (fun _ => false) 200 _ _ _ _ ?_
  simp only [↓wp, ↓stp, ilen, lnth, st1, st2, nolong, nohead, rnth, ↓gfX, ↓pfX, gfV, pfV, cpF, cpP, cndZ, ↓tgo, ↓tsw, ↓lsw, ↓ldI, ↓ldA, ↓ldL, ↓stI, ↓stA, ↓stL, ↓bin, ↓binD, ↓binL, ↓binDL, ↓una, ↓acV, ↓acK, ↓acpy, ↓inv, entL, nones, List.length_cons, List.length_nil, List.take, List.drop, List.reverse_cons, List.reverse_nil, List.nil_append, List.cons_append, Option.toList_some, Option.toList_none, Nat.reduceAdd, Nat.reduceSub, Nat.reduceLT, Nat.reduceEqDiff, Fin.isValue, aTL, aSZ, Int.toNat_natCast, hset_same, hset_o, hset_s, hset_row, ne_eq, Nat.reduceBEq, beq_self_eq_true, Fin.val_zero, Fin.val_one, fin0, fin1, fin2, fin3, Nat.le_refl, Nat.reduceLeDiff, Nat.zero_le, Int.reduceAdd, Int.reduceNeg, Int.reduceLE, Int.reduceLT, Int.reduceToNat, Int.reduceMul, Int.cast_ofNat_Int, Nat.reduceMod, ↓reduceIte, if_true, if_false, and_true, true_and, or_true, true_or, false_or, or_false, and_self, not_true_eq_false, not_false_eq_true, Bool.false_eq_true, reduceCtorEq, false_implies, true_implies, implies_true, and_false, false_and, dX7_trace_0, dX7_trace_1, dX7_trace_4, dX7_trace_5, dX7_trace_6, dX7_trace_9, dX7_trace_12, dX7_trace_15, dX7_trace_16, dX7_trace_19, dX7_trace_22, dX7_trace_23, dX7_trace_24, dX7_trace_27, dX7_trace_30, cpX7, mT_X7_trace, SHl_0, SHl_1, SHl_2, SHl_3, SHl_4, SHl_5, SHl_6, SHl_7, SHl_8, SHl_9, SHl_10, SHl_11, SHl_12, SHl_13, SHl_14, SHl_15, SHl_16, SHl_17, SHl_18, SHl_19, SHl_20, SHl_21, SHl_22, SHl_23, SHl_24, SHl_25, SHl_26, SHl_27, SHl_28, SHl_29, SHl_30, SHl_31, SHl_32, SHl_33, SHl_34, SHl_35, SHl_36, SHl_37, SHl_38, SHl_39, SHl_40, SHl_41, SHl_42, SHl_43, SHl_44, SHl_45, SHl_46, SHl_47, SHl_48, SHl_49, SHl_50, SHl_51, SHl_52, SHl_53, SHl_54, SHl_55, SHl_56, SHl_57]
  (repeat' (first | apply And.intro | intro _)) <;> first | omega | exact hq | (rw [if_pos (by omega)] at hq; exact hq) | (rw [if_neg (by omega)] at hq; exact hq) | (repeat (first | rw [if_pos (by omega)] at hq | rw [if_neg (by omega)] at hq)) <;> exact hq | assumption | exact R32_of _
def S_X7_kind : MSpec := fun a σ Q => match a with
  | [.inr (.inl 0), .inl c] => R32 c ∧ (0 ≤ σ 7 1 ∧ σ 7 1 ≤ 10) ∧ Q (some (.inl (if 0 ≤ c ∧ c < σ 7 1 then σ 8 c.toNat else -1000001))) σ
  | _ => False
theorem rc_X7_kind : ∀ a σ Q, S_X7_kind a σ Q → ∃ (p : Nat) (r : List AV), a = .inr (.inl p) :: r ∧ p < 76 ∧ (SH p).1 = 4 ∧ (SH p).2.1 = 6 := by
  intro a σ Q h
  unfold S_X7_kind at h
  split at h
  · exact ⟨0, _, rfl, by decide, rfl, rfl⟩
  · exact h.elim
def mT_X7_kind (i : Nat) : Option (Nat × Bool × MSpec) := match i with
  | 161 => some (2, true, S_X7_isChord)
  | _ => none
theorem mT_X7_kind_ok {l : Launch} {n : Nat} (hn : 1 ≤ n) : ∀ i e, mT_X7_kind i = some e → mV l (rmOf n) RX7 i e := by
  intro i e h
  unfold mT_X7_kind at h
  split at h
  · cases h; exact mvI (lv := 0) (ci := 6) (T := TX7) (N := 15) mw_X7_isChord rfl (by omega) (by decide) (by decide +kernel) (gtm 457 (by decide +kernel) (by decide +kernel)) rc_X7_isChord ok_X7_isChord
  · cases h
set_option maxRecDepth 100000 in
set_option maxHeartbeats 4000000 in
theorem ok_X7_kind : ∀ l n, 1 ≤ n → ∀ a σ Q, S_X7_kind a σ Q → AM l n yX7_kind cX7_kind 2 (some .int) a σ Q := by
  intro l n hn a σ Q hS
  unfold S_X7_kind at hS
  split at hS
  rotate_left
  · exact hS.elim
  rename_i c
  obtain ⟨⟨c1, c2⟩, h1, hq⟩ := hS
  refine am_ofF 1 cpX7 mT_X7_kind (plainFor_of_name (by decide +kernel)) (rfl) (Nat.le_of_ble_eq_true rfl) (cpX7_ok) (mT_X7_kind_ok hn) (fun K hK => ?_)
  refine hK (fun _ => false) 200 _ _ _ _ ?_
  simp only [↓wp, ↓stp, ilen, lnth, st1, st2, nolong, nohead, rnth, ↓gfX, ↓pfX, gfV, pfV, cpF, cpP, cndZ, ↓tgo, ↓tsw, ↓lsw, ↓ldI, ↓ldA, ↓ldL, ↓stI, ↓stA, ↓stL, ↓bin, ↓binD, ↓binL, ↓binDL, ↓una, ↓acV, ↓acK, ↓acpy, ↓inv, entL, nones, List.length_cons, List.length_nil, List.take, List.drop, List.reverse_cons, List.reverse_nil, List.nil_append, List.cons_append, Option.toList_some, Option.toList_none, Nat.reduceAdd, Nat.reduceSub, Nat.reduceLT, Nat.reduceEqDiff, Fin.isValue, aTL, aSZ, Int.toNat_natCast, hset_same, hset_o, hset_s, hset_row, ne_eq, Nat.reduceBEq, beq_self_eq_true, Fin.val_zero, Fin.val_one, fin0, fin1, fin2, fin3, Nat.le_refl, Nat.reduceLeDiff, Nat.zero_le, Int.reduceAdd, Int.reduceNeg, Int.reduceLE, Int.reduceLT, Int.reduceToNat, Int.reduceMul, Int.cast_ofNat_Int, Nat.reduceMod, ↓reduceIte, if_true, if_false, and_true, true_and, or_true, true_or, false_or, or_false, and_self, not_true_eq_false, not_false_eq_true, Bool.false_eq_true, reduceCtorEq, false_implies, true_implies, implies_true, and_false, false_and, dX7_kind_0, dX7_kind_1, dX7_kind_2, dX7_kind_5, dX7_kind_8, dX7_kind_9, dX7_kind_12, dX7_kind_15, dX7_kind_16, dX7_kind_17, dX7_kind_20, dX7_kind_22, cpX7, mT_X7_kind, SHl_0, SHl_1, SHl_2, SHl_3, SHl_4, SHl_5, SHl_6, SHl_7, SHl_8, SHl_9, SHl_10, SHl_11, SHl_12, SHl_13, SHl_14, SHl_15, SHl_16, SHl_17, SHl_18, SHl_19, SHl_20, SHl_21, SHl_22, SHl_23, SHl_24, SHl_25, SHl_26, SHl_27, SHl_28, SHl_29, SHl_30, SHl_31, SHl_32, SHl_33, SHl_34, SHl_35, SHl_36, SHl_37, SHl_38, SHl_39, SHl_40, SHl_41, SHl_42, SHl_43, SHl_44, SHl_45, SHl_46, SHl_47, SHl_48, SHl_49, SHl_50, SHl_51, SHl_52, SHl_53, SHl_54, SHl_55, SHl_56, SHl_57, S_X7_isChord]
  (repeat' (first | apply And.intro | intro _)) <;> first | omega | exact hq | (rw [if_pos (by omega)] at hq; exact hq) | (rw [if_neg (by omega)] at hq; exact hq) | (repeat (first | rw [if_pos (by omega)] at hq | rw [if_neg (by omega)] at hq)) <;> exact hq | assumption | exact R32_of _
def S_X7_place : MSpec := fun a σ Q => match a with
  | [.inr (.inl 0), .inl p, .inl w] => R32 p ∧ R32 w ∧ Q (some (.inl (if ¬ (-15 ≤ p ∧ p ≤ 19) then -1000001 else if w = 0 then (p + 1) % 7 else if w = 1 then (p + 1) / 7 else if w = 2 then 7 * p % 12 else -1000001))) σ
  | _ => False
theorem rc_X7_place : ∀ a σ Q, S_X7_place a σ Q → ∃ (p : Nat) (r : List AV), a = .inr (.inl p) :: r ∧ p < 76 ∧ (SH p).1 = 4 ∧ (SH p).2.1 = 6 := by
  intro a σ Q h
  unfold S_X7_place at h
  split at h
  · exact ⟨0, _, rfl, by decide, rfl, rfl⟩
  · exact h.elim
def mT_X7_place (i : Nat) : Option (Nat × Bool × MSpec) := match i with
  | 186 => some (1, false, S_X3_letterOf)
  | 191 => some (1, false, S_X3_alterOf)
  | 194 => some (1, false, S_X3_keyOf)
  | _ => none
theorem mT_X7_place_ok {l : Launch} {n : Nat} (hn : 2 ≤ n) : ∀ i e, mT_X7_place i = some e → mV l (rmOf n) RX7 i e := by
  intro i e h
  unfold mT_X7_place at h
  split at h
  · cases h; exact mvS (lv := 1) mw_X3_letterOf (by omega) (by decide) (by decide +kernel) (Or.inl (gtm 494 (by decide +kernel) (by decide +kernel))) ok_X3_letterOf
  · cases h; exact mvS (lv := 1) mw_X3_alterOf (by omega) (by decide) (by decide +kernel) (Or.inl (gtm 498 (by decide +kernel) (by decide +kernel))) ok_X3_alterOf
  · cases h; exact mvS (lv := 1) mw_X3_keyOf (by omega) (by decide) (by decide +kernel) (Or.inl (gtm 504 (by decide +kernel) (by decide +kernel))) ok_X3_keyOf
  · cases h
set_option maxRecDepth 100000 in
set_option maxHeartbeats 4000000 in
theorem ok_X7_place : ∀ l n, 2 ≤ n → ∀ a σ Q, S_X7_place a σ Q → AM l n yX7_place cX7_place 3 (some .int) a σ Q := by
  intro l n hn a σ Q hS
  unfold S_X7_place at hS
  split at hS
  rotate_left
  · exact hS.elim
  rename_i p w
  obtain ⟨⟨c1, c2⟩, ⟨w1, w2⟩, hq⟩ := hS
  refine am_ofF 1 cpX7 mT_X7_place (plainFor_of_name (by decide +kernel)) (rfl) (Nat.le_of_ble_eq_true rfl) (cpX7_ok) (mT_X7_place_ok hn) (fun K hK => ?_)
  refine hK (fun _ => false) 200 _ _ _ _ ?_
  simp only [↓wp, ↓stp, ilen, lnth, st1, st2, nolong, nohead, rnth, ↓gfX, ↓pfX, gfV, pfV, cpF, cpP, cndZ, ↓tgo, ↓tsw, ↓lsw, ↓ldI, ↓ldA, ↓ldL, ↓stI, ↓stA, ↓stL, ↓bin, ↓binD, ↓binL, ↓binDL, ↓una, ↓acV, ↓acK, ↓acpy, ↓inv, entL, nones, List.length_cons, List.length_nil, List.take, List.drop, List.reverse_cons, List.reverse_nil, List.nil_append, List.cons_append, Option.toList_some, Option.toList_none, Nat.reduceAdd, Nat.reduceSub, Nat.reduceLT, Nat.reduceEqDiff, Fin.isValue, aTL, aSZ, Int.toNat_natCast, hset_same, hset_o, hset_s, hset_row, ne_eq, Nat.reduceBEq, beq_self_eq_true, Fin.val_zero, Fin.val_one, fin0, fin1, fin2, fin3, Nat.le_refl, Nat.reduceLeDiff, Nat.zero_le, Int.reduceAdd, Int.reduceNeg, Int.reduceLE, Int.reduceLT, Int.reduceToNat, Int.reduceMul, Int.cast_ofNat_Int, Nat.reduceMod, ↓reduceIte, if_true, if_false, and_true, true_and, or_true, true_or, false_or, or_false, and_self, not_true_eq_false, not_false_eq_true, Bool.false_eq_true, reduceCtorEq, false_implies, true_implies, implies_true, and_false, false_and, dX7_place_0, dX7_place_1, dX7_place_3, dX7_place_6, dX7_place_7, dX7_place_9, dX7_place_12, dX7_place_14, dX7_place_15, dX7_place_16, dX7_place_44, dX7_place_45, dX7_place_48, dX7_place_49, dX7_place_50, dX7_place_53, dX7_place_54, dX7_place_55, dX7_place_58, dX7_place_59, dX7_place_61, cpX7, mT_X7_place, SHl_0, SHl_1, SHl_2, SHl_3, SHl_4, SHl_5, SHl_6, SHl_7, SHl_8, SHl_9, SHl_10, SHl_11, SHl_12, SHl_13, SHl_14, SHl_15, SHl_16, SHl_17, SHl_18, SHl_19, SHl_20, SHl_21, SHl_22, SHl_23, SHl_24, SHl_25, SHl_26, SHl_27, SHl_28, SHl_29, SHl_30, SHl_31, SHl_32, SHl_33, SHl_34, SHl_35, SHl_36, SHl_37, SHl_38, SHl_39, SHl_40, SHl_41, SHl_42, SHl_43, SHl_44, SHl_45, SHl_46, SHl_47, SHl_48, SHl_49, SHl_50, SHl_51, SHl_52, SHl_53, SHl_54, SHl_55, SHl_56, SHl_57, S_X3_alterOf, S_X3_keyOf, S_X3_letterOf]
  (repeat' (first | apply And.intro | intro _)) <;> first | omega | exact hq | (rw [if_pos (by omega)] at hq; exact hq) | (rw [if_neg (by omega)] at hq; exact hq) | (repeat (first | rw [if_pos (by omega)] at hq | rw [if_neg (by omega)] at hq)) <;> exact hq | assumption | exact R32_of _
def S_X7_inWindow : MSpec := fun a σ Q => match a with
  | [.inr (.inl 0), .inl w, .inl k] => R32 w ∧ R32 k ∧ Q (some (.inl (if (-15 ≤ w ∧ w ≤ 8) ∧ (0 ≤ k ∧ k < 12) then w + (7 * k - w) % 12 else -1000001))) σ
  | _ => False
theorem rc_X7_inWindow : ∀ a σ Q, S_X7_inWindow a σ Q → ∃ (p : Nat) (r : List AV), a = .inr (.inl p) :: r ∧ p < 76 ∧ (SH p).1 = 4 ∧ (SH p).2.1 = 6 := by
  intro a σ Q h
  unfold S_X7_inWindow at h
  split at h
  · exact ⟨0, _, rfl, by decide, rfl, rfl⟩
  · exact h.elim
def mT_X7_inWindow (i : Nat) : Option (Nat × Bool × MSpec) := match i with
  | 150 => some (1, false, S_X7_isKey)
  | 197 => some (1, false, S_X7_isWindow)
  | 200 => some (2, false, S_X3_placeIn)
  | _ => none
theorem mT_X7_inWindow_ok {l : Launch} {n : Nat} (hn : 2 ≤ n) : ∀ i e, mT_X7_inWindow i = some e → mV l (rmOf n) RX7 i e := by
  intro i e h
  unfold mT_X7_inWindow at h
  split at h
  · cases h; exact mvS (lv := 0) mw_X7_isKey (by omega) (by decide) (by decide +kernel) (Or.inl (gtm 438 (by decide +kernel) (by decide +kernel))) ok_X7_isKey
  · cases h; exact mvS (lv := 0) mw_X7_isWindow (by omega) (by decide) (by decide +kernel) (Or.inl (gtm 511 (by decide +kernel) (by decide +kernel))) ok_X7_isWindow
  · cases h; exact mvS (lv := 1) mw_X3_placeIn (by omega) (by decide) (by decide +kernel) (Or.inl (gtm 514 (by decide +kernel) (by decide +kernel))) ok_X3_placeIn
  · cases h
set_option maxRecDepth 100000 in
set_option maxHeartbeats 4000000 in
theorem ok_X7_inWindow : ∀ l n, 2 ≤ n → ∀ a σ Q, S_X7_inWindow a σ Q → AM l n yX7_inWindow cX7_inWindow 3 (some .int) a σ Q := by
  intro l n hn a σ Q hS
  unfold S_X7_inWindow at hS
  split at hS
  rotate_left
  · exact hS.elim
  rename_i p w
  obtain ⟨⟨c1, c2⟩, ⟨w1, w2⟩, hq⟩ := hS
  refine am_ofF 1 cpX7 mT_X7_inWindow (plainFor_of_name (by decide +kernel)) (rfl) (Nat.le_of_ble_eq_true rfl) (cpX7_ok) (mT_X7_inWindow_ok hn) (fun K hK => ?_)
  refine hK (fun _ => false) 200 _ _ _ _ ?_
  simp only [↓wp, ↓stp, ilen, lnth, st1, st2, nolong, nohead, rnth, ↓gfX, ↓pfX, gfV, pfV, cpF, cpP, cndZ, ↓tgo, ↓tsw, ↓lsw, ↓ldI, ↓ldA, ↓ldL, ↓stI, ↓stA, ↓stL, ↓bin, ↓binD, ↓binL, ↓binDL, ↓una, ↓acV, ↓acK, ↓acpy, ↓inv, entL, nones, List.length_cons, List.length_nil, List.take, List.drop, List.reverse_cons, List.reverse_nil, List.nil_append, List.cons_append, Option.toList_some, Option.toList_none, Nat.reduceAdd, Nat.reduceSub, Nat.reduceLT, Nat.reduceEqDiff, Fin.isValue, aTL, aSZ, Int.toNat_natCast, hset_same, hset_o, hset_s, hset_row, ne_eq, Nat.reduceBEq, beq_self_eq_true, Fin.val_zero, Fin.val_one, fin0, fin1, fin2, fin3, Nat.le_refl, Nat.reduceLeDiff, Nat.zero_le, Int.reduceAdd, Int.reduceNeg, Int.reduceLE, Int.reduceLT, Int.reduceToNat, Int.reduceMul, Int.cast_ofNat_Int, Nat.reduceMod, ↓reduceIte, if_true, if_false, and_true, true_and, or_true, true_or, false_or, or_false, and_self, not_true_eq_false, not_false_eq_true, Bool.false_eq_true, reduceCtorEq, false_implies, true_implies, implies_true, and_false, false_and, dX7_inWindow_0, dX7_inWindow_1, dX7_inWindow_4, dX7_inWindow_7, dX7_inWindow_8, dX7_inWindow_11, dX7_inWindow_14, dX7_inWindow_15, dX7_inWindow_16, dX7_inWindow_19, dX7_inWindow_22, dX7_inWindow_24, cpX7, mT_X7_inWindow, SHl_0, SHl_1, SHl_2, SHl_3, SHl_4, SHl_5, SHl_6, SHl_7, SHl_8, SHl_9, SHl_10, SHl_11, SHl_12, SHl_13, SHl_14, SHl_15, SHl_16, SHl_17, SHl_18, SHl_19, SHl_20, SHl_21, SHl_22, SHl_23, SHl_24, SHl_25, SHl_26, SHl_27, SHl_28, SHl_29, SHl_30, SHl_31, SHl_32, SHl_33, SHl_34, SHl_35, SHl_36, SHl_37, SHl_38, SHl_39, SHl_40, SHl_41, SHl_42, SHl_43, SHl_44, SHl_45, SHl_46, SHl_47, SHl_48, SHl_49, SHl_50, SHl_51, SHl_52, SHl_53, SHl_54, SHl_55, SHl_56, SHl_57, S_X3_placeIn, S_X7_isKey, S_X7_isWindow]
  (repeat' (first | apply And.intro | intro _)) <;> first | omega | exact hq | (rw [if_pos (by omega)] at hq; exact hq) | (rw [if_neg (by omega)] at hq; exact hq) | (repeat (first | rw [if_pos (by omega)] at hq | rw [if_neg (by omega)] at hq)) <;> exact hq | assumption | exact R32_of _
def headV (g t : Int) : Int := if t < g - 7 then 1 else if g ≤ t then -1 else 0
def S_X7_head : MSpec := fun a σ Q => match a with
  | [.inr (.inl 0), .inl t] => R32 t ∧ (0 ≤ σ 7 1 ∧ σ 7 1 ≤ 10) ∧ (0 ≤ σ 7 0 ∧ σ 7 0 ≤ 14) ∧ Q (some (.inl (if σ 7 1 = 0 ∨ ¬ (0 ≤ t ∧ t < 7) then -1000001 else headV (σ 7 0) t))) σ
  | _ => False
theorem rc_X7_head : ∀ a σ Q, S_X7_head a σ Q → ∃ (p : Nat) (r : List AV), a = .inr (.inl p) :: r ∧ p < 76 ∧ (SH p).1 = 4 ∧ (SH p).2.1 = 6 := by
  intro a σ Q h
  unfold S_X7_head at h
  split at h
  · exact ⟨0, _, rfl, by decide, rfl, rfl⟩
  · exact h.elim
def mT_X7_head (i : Nat) : Option (Nat × Bool × MSpec) := match i with
  | 167 => some (1, true, S_X7_isNoPiece)
  | 204 => some (2, false, S_X3_headOf)
  | _ => none
theorem mT_X7_head_ok {l : Launch} {n : Nat} (hn : 1 ≤ n) : ∀ i e, mT_X7_head i = some e → mV l (rmOf n) RX7 i e := by
  intro i e h
  unfold mT_X7_head at h
  split at h
  · cases h; exact mvI (lv := 0) (ci := 6) (T := TX7) (N := 15) mw_X7_isNoPiece rfl (by omega) (by decide) (by decide +kernel) (gtm 465 (by decide +kernel) (by decide +kernel)) rc_X7_isNoPiece ok_X7_isNoPiece
  · cases h; exact mvS (lv := 0) mw_X3_headOf (by omega) (by decide) (by decide +kernel) (Or.inl (gtm 521 (by decide +kernel) (by decide +kernel))) ok_X3_headOf
  · cases h
set_option maxRecDepth 100000 in
set_option maxHeartbeats 4000000 in
theorem ok_X7_head : ∀ l n, 1 ≤ n → ∀ a σ Q, S_X7_head a σ Q → AM l n yX7_head cX7_head 2 (some .int) a σ Q := by
  intro l n hn a σ Q hS
  unfold S_X7_head at hS
  split at hS
  rotate_left
  · exact hS.elim
  rename_i t
  obtain ⟨⟨c1, c2⟩, h1, h2, hq⟩ := hS
  refine am_ofF 1 cpX7 mT_X7_head (plainFor_of_name (by decide +kernel)) (rfl) (Nat.le_of_ble_eq_true rfl) (cpX7_ok) (mT_X7_head_ok hn) (fun K hK => ?_)
  refine hK (fun _ => false) 200 _ _ _ _ ?_
  simp only [↓wp, ↓stp, ilen, lnth, st1, st2, nolong, nohead, rnth, ↓gfX, ↓pfX, gfV, pfV, cpF, cpP, cndZ, ↓tgo, ↓tsw, ↓lsw, ↓ldI, ↓ldA, ↓ldL, ↓stI, ↓stA, ↓stL, ↓bin, ↓binD, ↓binL, ↓binDL, ↓una, ↓acV, ↓acK, ↓acpy, ↓inv, entL, nones, List.length_cons, List.length_nil, List.take, List.drop, List.reverse_cons, List.reverse_nil, List.nil_append, List.cons_append, Option.toList_some, Option.toList_none, Nat.reduceAdd, Nat.reduceSub, Nat.reduceLT, Nat.reduceEqDiff, Fin.isValue, aTL, aSZ, Int.toNat_natCast, hset_same, hset_o, hset_s, hset_row, ne_eq, Nat.reduceBEq, beq_self_eq_true, Fin.val_zero, Fin.val_one, fin0, fin1, fin2, fin3, Nat.le_refl, Nat.reduceLeDiff, Nat.zero_le, Int.reduceAdd, Int.reduceNeg, Int.reduceLE, Int.reduceLT, Int.reduceToNat, Int.reduceMul, Int.cast_ofNat_Int, Nat.reduceMod, ↓reduceIte, if_true, if_false, and_true, true_and, or_true, true_or, false_or, or_false, and_self, not_true_eq_false, not_false_eq_true, Bool.false_eq_true, reduceCtorEq, false_implies, true_implies, implies_true, and_false, false_and, dX7_head_0, dX7_head_1, dX7_head_4, dX7_head_7, dX7_head_8, dX7_head_11, dX7_head_12, dX7_head_14, dX7_head_17, dX7_head_19, dX7_head_20, dX7_head_21, dX7_head_24, dX7_head_27, dX7_head_28, dX7_head_31, cpX7, mT_X7_head, SHl_0, SHl_1, SHl_2, SHl_3, SHl_4, SHl_5, SHl_6, SHl_7, SHl_8, SHl_9, SHl_10, SHl_11, SHl_12, SHl_13, SHl_14, SHl_15, SHl_16, SHl_17, SHl_18, SHl_19, SHl_20, SHl_21, SHl_22, SHl_23, SHl_24, SHl_25, SHl_26, SHl_27, SHl_28, SHl_29, SHl_30, SHl_31, SHl_32, SHl_33, SHl_34, SHl_35, SHl_36, SHl_37, SHl_38, SHl_39, SHl_40, SHl_41, SHl_42, SHl_43, SHl_44, SHl_45, SHl_46, SHl_47, SHl_48, SHl_49, SHl_50, SHl_51, SHl_52, SHl_53, SHl_54, SHl_55, SHl_56, SHl_57, S_X3_headOf, S_X7_isNoPiece]
  unfold headV at hq
  (repeat' (first | apply And.intro | intro _)) <;> first | omega | exact hq | (rw [if_pos (by omega)] at hq; exact hq) | (rw [if_neg (by omega)] at hq; exact hq) | (repeat (first | rw [if_pos (by omega)] at hq | rw [if_neg (by omega)] at hq)) <;> exact hq | assumption | exact R32_of _
def S_X1_isOne : MSpec := fun a σ Q => match a with
  | [.inl k, .inl q] => (1 ≤ k ∧ k ≤ 5) ∧ (0 ≤ q ∧ q ≤ 5) ∧ Q (some (.inl (if q = 0 ∨ q = k ∨ (q = 1 ∧ (k = 2 ∨ k = 3)) ∨ (q = 4 ∧ k = 5) then 1 else 0))) σ
  | _ => False
def mT_X1_isOne (i : Nat) : Option (Nat × Bool × MSpec) := match i with
  | _ => none
theorem mT_X1_isOne_ok {l : Launch} {n : Nat} (hn : 0 ≤ n) : ∀ i e, mT_X1_isOne i = some e → mV l (rmOf n) RX1 i e := by
  intro i e h
  unfold mT_X1_isOne at h
  split at h
  · cases h
set_option maxRecDepth 100000 in
set_option maxHeartbeats 4000000 in
theorem ok_X1_isOne : ∀ l n, 0 ≤ n → ∀ a σ Q, S_X1_isOne a σ Q → AM l n yX1_isOne cX1_isOne 2 (some .boolean) a σ Q := by
  intro l n hn a σ Q hS
  unfold S_X1_isOne at hS
  split at hS
  rotate_left
  · exact hS.elim
  rename_i k q
  obtain ⟨h1, h2, hq⟩ := hS
  refine am_ofF 2 cpX1 mT_X1_isOne (plainFor_of_name (by decide +kernel)) (rfl) (Nat.le_of_ble_eq_true rfl) (cpX1_ok) (mT_X1_isOne_ok hn) (fun K hK => ?_)
  refine hK (fun _ => false) 200 _ _ _ _ ?_
  simp only [↓wp, ↓stp, ilen, lnth, st1, st2, nolong, nohead, rnth, ↓gfX, ↓pfX, gfV, pfV, cpF, cpP, cndZ, ↓tgo, ↓tsw, ↓lsw, ↓ldI, ↓ldA, ↓ldL, ↓stI, ↓stA, ↓stL, ↓bin, ↓binD, ↓binL, ↓binDL, ↓una, ↓acV, ↓acK, ↓acpy, ↓inv, entL, nones, List.length_cons, List.length_nil, List.take, List.drop, List.reverse_cons, List.reverse_nil, List.nil_append, List.cons_append, Option.toList_some, Option.toList_none, Nat.reduceAdd, Nat.reduceSub, Nat.reduceLT, Nat.reduceEqDiff, Fin.isValue, aTL, aSZ, Int.toNat_natCast, hset_same, hset_o, hset_s, hset_row, ne_eq, Nat.reduceBEq, beq_self_eq_true, Fin.val_zero, Fin.val_one, fin0, fin1, fin2, fin3, Nat.le_refl, Nat.reduceLeDiff, Nat.zero_le, Int.reduceAdd, Int.reduceNeg, Int.reduceLE, Int.reduceLT, Int.reduceToNat, Int.reduceMul, Int.cast_ofNat_Int, Nat.reduceMod, ↓reduceIte, if_true, if_false, and_true, true_and, or_true, true_or, false_or, or_false, and_self, not_true_eq_false, not_false_eq_true, Bool.false_eq_true, reduceCtorEq, false_implies, true_implies, implies_true, and_false, false_and, dX1_isOne_0, dX1_isOne_1, dX1_isOne_4, dX1_isOne_5, dX1_isOne_6, dX1_isOne_9, dX1_isOne_10, dX1_isOne_13, dX1_isOne_14, dX1_isOne_15, dX1_isOne_18, dX1_isOne_19, dX1_isOne_22, dX1_isOne_23, cpX1, mT_X1_isOne, SHl_42, SHl_43, SHl_76, SHl_77, SHl_78, roS]
  have hg : ([0, 0, 1, 1, 0, 4] : List Int).getD k.toNat 0 = if k = 2 ∨ k = 3 then 1 else if k = 5 then 4 else 0 := by
    have hk : k = 1 ∨ k = 2 ∨ k = 3 ∨ k = 4 ∨ k = 5 := by omega
    rcases hk with rfl | rfl | rfl | rfl | rfl <;> rfl
  simp only [hg]
  (repeat' (first | apply And.intro | intro _)) <;> first | omega | exact hq | (rw [if_pos (by omega)] at hq; exact hq) | (rw [if_neg (by omega)] at hq; exact hq) | (repeat (first | rw [if_pos (by omega)] at hq | rw [if_neg (by omega)] at hq)) <;> exact hq | assumption | exact R32_of _
