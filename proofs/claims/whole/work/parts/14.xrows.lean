/-! ===== the class's rows: row, set, copy, drop ===== -/
def S_X7_found : MSpec := fun a σ Q => match a with
  | [.inr (.inl 0), .inl f] => Q (some (.inl (-1000010 - f))) (hset σ 0 14 f)
  | _ => False
theorem rc_X7_found : ∀ a σ Q, S_X7_found a σ Q → ∃ (p : Nat) (r : List AV), a = .inr (.inl p) :: r ∧ p < 76 ∧ (SH p).1 = 4 ∧ (SH p).2.1 = 6 := by
  intro a σ Q h
  unfold S_X7_found at h
  split at h
  · exact ⟨0, _, rfl, by decide, rfl, rfl⟩
  · exact h.elim
def mT_X7_found (i : Nat) : Option (Nat × Bool × MSpec) := match i with
  | _ => none
theorem mT_X7_found_ok {l : Launch} {n : Nat} (hn : 0 ≤ n) : ∀ i e, mT_X7_found i = some e → mV l (rmOf n) RX7 i e := by
  intro i e h
  unfold mT_X7_found at h
  split at h
  · cases h
set_option maxRecDepth 100000 in
set_option maxHeartbeats 4000000 in
theorem ok_X7_found : ∀ l n, 0 ≤ n → ∀ a σ Q, S_X7_found a σ Q → AM l n yX7_found cX7_found 2 (some .int) a σ Q := by
  intro l n hn a σ Q hS
  unfold S_X7_found at hS
  split at hS
  rotate_left
  · exact hS.elim
  rename_i f
  obtain hq := hS
  refine am_ofF 1 cpX7 mT_X7_found (plainFor_of_name (by decide +kernel)) (rfl) (Nat.le_of_ble_eq_true rfl) (cpX7_ok) (mT_X7_found_ok hn) (fun K hK => ?_)
  refine hK (fun _ => false) 200 _ _ _ _ ?_
  simp only [↓wp, ↓stp, ilen, lnth, st1, st2, nolong, nohead, rnth, ↓gfX, ↓pfX, gfV, pfV, cpF, cpP, cndZ, ↓tgo, ↓tsw, ↓lsw, ↓ldI, ↓ldA, ↓ldL, ↓stI, ↓stA, ↓stL, ↓bin, ↓binD, ↓binL, ↓binDL, ↓una, ↓acV, ↓acK, ↓acpy, ↓inv, entL, nones, SH, List.length_cons, List.length_nil, List.take, List.drop, List.reverse_cons, List.reverse_nil, List.nil_append, List.cons_append, Option.toList_some, Option.toList_none, Nat.reduceAdd, Nat.reduceSub, Nat.reduceLT, Nat.reduceEqDiff, Fin.isValue, Int.toNat_natCast, Nat.reduceBEq, beq_self_eq_true, Fin.val_zero, Fin.val_one, fin0, fin1, fin2, fin3, Nat.le_refl, Nat.reduceLeDiff, Nat.zero_le, Int.reduceAdd, Int.reduceNeg, Int.reduceLE, Int.reduceLT, Int.reduceToNat, Int.reduceMul, Int.cast_ofNat_Int, Nat.reduceMod, ↓reduceIte, if_true, if_false, and_true, true_and, or_true, true_or, false_or, or_false, and_self, not_true_eq_false, not_false_eq_true, Bool.false_eq_true, reduceCtorEq, false_implies, true_implies, implies_true, and_false, false_and, dX7_found_0, dX7_found_1, dX7_found_2, dX7_found_5, dX7_found_8, dX7_found_9, dX7_found_10, cpX7, mT_X7_found]
  (repeat' (first | apply And.intro | intro _)) <;> first | omega | exact hq | (rw [if_pos (by omega)] at hq; exact hq) | (rw [if_neg (by omega)] at hq; exact hq) | (repeat (first | rw [if_pos (by omega)] at hq | rw [if_neg (by omega)] at hq)) <;> exact hq | assumption | exact R32_of _
def S_X7_fine : MSpec := fun a σ Q => match a with
  | [.inr (.inl 0), .inl v] => Q (some (.inl v)) (hset σ 0 14 0)
  | _ => False
theorem rc_X7_fine : ∀ a σ Q, S_X7_fine a σ Q → ∃ (p : Nat) (r : List AV), a = .inr (.inl p) :: r ∧ p < 76 ∧ (SH p).1 = 4 ∧ (SH p).2.1 = 6 := by
  intro a σ Q h
  unfold S_X7_fine at h
  split at h
  · exact ⟨0, _, rfl, by decide, rfl, rfl⟩
  · exact h.elim
def mT_X7_fine (i : Nat) : Option (Nat × Bool × MSpec) := match i with
  | _ => none
theorem mT_X7_fine_ok {l : Launch} {n : Nat} (hn : 0 ≤ n) : ∀ i e, mT_X7_fine i = some e → mV l (rmOf n) RX7 i e := by
  intro i e h
  unfold mT_X7_fine at h
  split at h
  · cases h
set_option maxRecDepth 100000 in
set_option maxHeartbeats 4000000 in
theorem ok_X7_fine : ∀ l n, 0 ≤ n → ∀ a σ Q, S_X7_fine a σ Q → AM l n yX7_fine cX7_fine 2 (some .int) a σ Q := by
  intro l n hn a σ Q hS
  unfold S_X7_fine at hS
  split at hS
  rotate_left
  · exact hS.elim
  rename_i v
  obtain hq := hS
  refine am_ofF 1 cpX7 mT_X7_fine (plainFor_of_name (by decide +kernel)) (rfl) (Nat.le_of_ble_eq_true rfl) (cpX7_ok) (mT_X7_fine_ok hn) (fun K hK => ?_)
  refine hK (fun _ => false) 200 _ _ _ _ ?_
  simp only [↓wp, ↓stp, ilen, lnth, st1, st2, nolong, nohead, rnth, ↓gfX, ↓pfX, gfV, pfV, cpF, cpP, cndZ, ↓tgo, ↓tsw, ↓lsw, ↓ldI, ↓ldA, ↓ldL, ↓stI, ↓stA, ↓stL, ↓bin, ↓binD, ↓binL, ↓binDL, ↓una, ↓acV, ↓acK, ↓acpy, ↓inv, entL, nones, SH, List.length_cons, List.length_nil, List.take, List.drop, List.reverse_cons, List.reverse_nil, List.nil_append, List.cons_append, Option.toList_some, Option.toList_none, Nat.reduceAdd, Nat.reduceSub, Nat.reduceLT, Nat.reduceEqDiff, Fin.isValue, Int.toNat_natCast, Nat.reduceBEq, beq_self_eq_true, Fin.val_zero, Fin.val_one, fin0, fin1, fin2, fin3, Nat.le_refl, Nat.reduceLeDiff, Nat.zero_le, Int.reduceAdd, Int.reduceNeg, Int.reduceLE, Int.reduceLT, Int.reduceToNat, Int.reduceMul, Int.cast_ofNat_Int, Nat.reduceMod, ↓reduceIte, if_true, if_false, and_true, true_and, or_true, true_or, false_or, or_false, and_self, not_true_eq_false, not_false_eq_true, Bool.false_eq_true, reduceCtorEq, false_implies, true_implies, implies_true, and_false, false_and, dX7_fine_0, dX7_fine_1, dX7_fine_2, dX7_fine_5, dX7_fine_6, cpX7, mT_X7_fine]
  (repeat' (first | apply And.intro | intro _)) <;> first | omega | exact hq | (rw [if_pos (by omega)] at hq; exact hq) | (rw [if_neg (by omega)] at hq; exact hq) | (repeat (first | rw [if_pos (by omega)] at hq | rw [if_neg (by omega)] at hq)) <;> exact hq | assumption | exact R32_of _
/-- what the class's rows hold: lanes, sizes, items -/
def iRow (σ : HP) : Prop := (∀ r, r < 8 → (-1 ≤ σ 4 r ∧ σ 4 r ≤ 40) ∧ (0 ≤ σ 3 r ∧ σ 3 r ≤ 2)) ∧ ∀ j, R32 (σ 2 j)
def S_X7_row : MSpec := fun a σ Q => match a with
  | [.inr (.inl 0), .inl r, .inl ln, .inl n] => R32 r ∧ R32 ln ∧ R32 n ∧ (if ¬ (0 ≤ r ∧ r < 8) ∨ ln < 0 ∨ 2 < ln ∨ 40 < n then Q (some (.inl (-1000001))) σ else if n < 0 then Q (some (.inl (-1000014))) (hset σ 0 14 4) else Q (some (.inl n)) (hset (hfill (hset (hset σ 3 r.toNat ln) 4 r.toNat n) 2 (r * 40).toNat n.toNat) 0 14 0))
  | _ => False
theorem rc_X7_row : ∀ a σ Q, S_X7_row a σ Q → ∃ (p : Nat) (r : List AV), a = .inr (.inl p) :: r ∧ p < 76 ∧ (SH p).1 = 4 ∧ (SH p).2.1 = 6 := by
  intro a σ Q h
  unfold S_X7_row at h
  split at h
  · exact ⟨0, _, rfl, by decide, rfl, rfl⟩
  · exact h.elim
def mT_X7_row (i : Nat) : Option (Nat × Bool × MSpec) := match i with
  | 81 => some (1, false, S_X5_isRow)
  | 86 => some (2, true, S_X7_found)
  | 90 => some (4, true, S_X5_make)
  | 94 => some (2, true, S_X7_fine)
  | _ => none
theorem mT_X7_row_ok {l : Launch} {n : Nat} (hn : 1 ≤ n) : ∀ i e, mT_X7_row i = some e → mV l (rmOf n) RX7 i e := by
  intro i e h
  unfold mT_X7_row at h
  split at h
  · cases h; exact mvS (lv := 0) mw_X5_isRow (by omega) (by decide) (by decide +kernel) (Or.inl (gtm 274 (by decide +kernel) (by decide +kernel))) ok_X5_isRow
  · cases h; exact mvI (lv := 0) (ci := 6) (T := TX7) (N := 15) mw_X7_found rfl (by omega) (by decide) (by decide +kernel) (gtm 278 (by decide +kernel) (by decide +kernel)) rc_X7_found ok_X7_found
  · cases h; exact mvI (lv := 0) (ci := 4) (T := TX5) (N := 3) mw_X5_make rfl (by omega) (by decide) (by decide +kernel) (gtm 283 (by decide +kernel) (by decide +kernel)) rc_X5_make ok_X5_make
  · cases h; exact mvI (lv := 0) (ci := 6) (T := TX7) (N := 15) mw_X7_fine rfl (by omega) (by decide) (by decide +kernel) (gtm 287 (by decide +kernel) (by decide +kernel)) rc_X7_fine ok_X7_fine
  · cases h
set_option maxRecDepth 100000 in
set_option maxHeartbeats 4000000 in
theorem ok_X7_row : ∀ l n, 1 ≤ n → ∀ a σ Q, S_X7_row a σ Q → AM l n yX7_row cX7_row 4 (some .int) a σ Q := by
  intro l n hn a σ Q hS
  unfold S_X7_row at hS
  split at hS
  rotate_left
  · exact hS.elim
  rename_i r ln n
  obtain ⟨⟨r1, r2⟩, ⟨l1, l2⟩, ⟨n1, n2⟩, hq⟩ := hS
  refine am_ofF 1 cpX7 mT_X7_row (plainFor_of_name (by decide +kernel)) (rfl) (Nat.le_of_ble_eq_true rfl) (cpX7_ok) (mT_X7_row_ok hn) (fun K hK => ?_)
  refine hK (fun _ => false) 200 _ _ _ _ ?_
  simp only [↓wp, ↓stp, ilen, lnth, st1, st2, nolong, nohead, rnth, ↓gfX, ↓pfX, gfV, pfV, cpF, cpP, cndZ, ↓tgo, ↓tsw, ↓lsw, ↓ldI, ↓ldA, ↓ldL, ↓stI, ↓stA, ↓stL, ↓bin, ↓binD, ↓binL, ↓binDL, ↓una, ↓acV, ↓acK, ↓acpy, ↓inv, entL, nones, SH, List.length_cons, List.length_nil, List.take, List.drop, List.reverse_cons, List.reverse_nil, List.nil_append, List.cons_append, Option.toList_some, Option.toList_none, Nat.reduceAdd, Nat.reduceSub, Nat.reduceLT, Nat.reduceEqDiff, Fin.isValue, Int.toNat_natCast, Nat.reduceBEq, beq_self_eq_true, Fin.val_zero, Fin.val_one, fin0, fin1, fin2, fin3, Nat.le_refl, Nat.reduceLeDiff, Nat.zero_le, Int.reduceAdd, Int.reduceNeg, Int.reduceLE, Int.reduceLT, Int.reduceToNat, Int.reduceMul, Int.cast_ofNat_Int, Nat.reduceMod, ↓reduceIte, if_true, if_false, and_true, true_and, or_true, true_or, false_or, or_false, and_self, not_true_eq_false, not_false_eq_true, Bool.false_eq_true, reduceCtorEq, false_implies, true_implies, implies_true, and_false, false_and, dX7_row_0, dX7_row_1, dX7_row_4, dX7_row_7, dX7_row_8, dX7_row_11, dX7_row_12, dX7_row_13, dX7_row_16, dX7_row_17, dX7_row_19, dX7_row_22, dX7_row_24, dX7_row_25, dX7_row_26, dX7_row_29, dX7_row_30, dX7_row_31, dX7_row_34, dX7_row_35, dX7_row_36, dX7_row_39, dX7_row_40, dX7_row_41, dX7_row_42, dX7_row_45, dX7_row_46, dX7_row_47, dX7_row_50, cpX7, mT_X7_row, S_X5_isRow, S_X5_make, S_X7_fine, S_X7_found]
  trace_state
  (repeat' (first | apply And.intro | intro _)) <;> first | omega | exact hq | (rw [if_pos (by omega)] at hq; exact hq) | (rw [if_neg (by omega)] at hq; exact hq) | (repeat (first | rw [if_pos (by omega)] at hq | rw [if_neg (by omega)] at hq)) <;> exact hq | assumption | exact R32_of _
