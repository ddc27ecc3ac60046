/-! ===== the reference: its small methods, its rows ===== -/
def S_X8_in : MSpec := fun a σ Q => match a with
  | [.inl v, .inl lo, .inl hi] => R32 v ∧ R32 lo ∧ R32 hi ∧ Q (some (.inl (if lo ≤ v ∧ v ≤ hi then 1 else 0))) σ
  | _ => False
def mT_X8_in (i : Nat) : Option (Nat × Bool × MSpec) := match i with
  | _ => none
theorem mT_X8_in_ok {l : Launch} {n : Nat} (hn : 0 ≤ n) : ∀ i e, mT_X8_in i = some e → mV l (rmOf n) RX8 i e := by
  intro i e h
  unfold mT_X8_in at h
  split at h
  · cases h
set_option maxRecDepth 100000 in
set_option maxHeartbeats 4000000 in
theorem ok_X8_in : ∀ l n, 0 ≤ n → ∀ a σ Q, S_X8_in a σ Q → AM l n yX8_in cX8_in 3 (some .boolean) a σ Q := by
  intro l n hn a σ Q hS
  unfold S_X8_in at hS
  split at hS
  rotate_left
  · exact hS.elim
  rename_i v lo hi
  obtain ⟨⟨v1, v2⟩, ⟨l1, l2⟩, ⟨h1, h2⟩, hq⟩ := hS
  refine am_ofF 2 cpX8 mT_X8_in (plainFor_of_name (by decide +kernel)) (rfl) (Nat.le_of_ble_eq_true rfl) (cpX8_ok) (mT_X8_in_ok hn) (fun K hK => ?_)
  refine hK (fun _ => false) 200 _ _ _ _ ?_
  simp only [↓wp, ↓stp, ilen, lnth, st1, st2, nolong, nohead, rnth, ↓gfX, ↓pfX, gfV, pfV, cpF, cpP, cndZ, ↓tgo, ↓tsw, ↓lsw, ↓ldI, ↓ldA, ↓ldL, ↓stI, ↓stA, ↓stL, ↓bin, ↓binD, ↓binL, ↓binDL, ↓una, ↓acV, ↓acK, ↓acpy, ↓inv, entL, nones, List.length_cons, List.length_nil, List.take, List.drop, List.reverse_cons, List.reverse_nil, List.nil_append, List.cons_append, Option.toList_some, Option.toList_none, Nat.reduceAdd, Nat.reduceSub, Nat.reduceLT, Nat.reduceEqDiff, Fin.isValue, aTL, aSZ, Int.toNat_natCast, hset_same, hset_o, hset_s, hset_row, ne_eq, Nat.reduceBEq, beq_self_eq_true, Fin.val_zero, Fin.val_one, fin0, fin1, fin2, fin3, Nat.le_refl, Nat.reduceLeDiff, Nat.zero_le, Int.reduceAdd, Int.reduceNeg, Int.reduceLE, Int.reduceLT, Int.reduceToNat, Int.reduceMul, Int.cast_ofNat_Int, Nat.reduceMod, ↓reduceIte, if_true, if_false, and_true, true_and, or_true, true_or, false_or, or_false, and_self, not_true_eq_false, not_false_eq_true, Bool.false_eq_true, reduceCtorEq, false_implies, true_implies, implies_true, and_false, false_and, dX8_in_0, dX8_in_1, dX8_in_2, dX8_in_5, dX8_in_6, dX8_in_7, dX8_in_10, dX8_in_11, dX8_in_14, dX8_in_15, cpX8, mT_X8_in, SHl_58, SHl_59, SHl_60, SHl_61, SHl_62, SHl_63, SHl_64, SHl_65, SHl_66, SHl_67, SHl_68, SHl_69, SHl_70, SHl_71, SHl_72, SHl_73, SHl_74, SHl_75]
  (repeat' (first | apply And.intro | intro _)) <;> first | omega | exact hq | (rw [if_pos (by omega)] at hq; exact hq) | (rw [if_neg (by omega)] at hq; exact hq) | (repeat (first | rw [if_pos (by omega)] at hq | rw [if_neg (by omega)] at hq)) <;> exact hq | assumption | exact R32_of _
def S_X8_size : MSpec := fun a σ Q => match a with
  | [.inl v] => R32 v ∧ Q (some (.inl (v.natAbs : Int))) σ
  | _ => False
def mT_X8_size (i : Nat) : Option (Nat × Bool × MSpec) := match i with
  | _ => none
theorem mT_X8_size_ok {l : Launch} {n : Nat} (hn : 0 ≤ n) : ∀ i e, mT_X8_size i = some e → mV l (rmOf n) RX8 i e := by
  intro i e h
  unfold mT_X8_size at h
  split at h
  · cases h
set_option maxRecDepth 100000 in
set_option maxHeartbeats 4000000 in
theorem ok_X8_size : ∀ l n, 0 ≤ n → ∀ a σ Q, S_X8_size a σ Q → AM l n yX8_size cX8_size 1 (some .int) a σ Q := by
  intro l n hn a σ Q hS
  unfold S_X8_size at hS
  split at hS
  rotate_left
  · exact hS.elim
  rename_i x
  obtain ⟨r1, hq⟩ := hS
  refine am_ofF 1 cpX8 mT_X8_size (plainFor_of_name (by decide +kernel)) (rfl) (Nat.le_of_ble_eq_true rfl) (cpX8_ok) (mT_X8_size_ok hn) (fun K hK => ?_)
  refine hK (fun _ => false) 200 _ _ _ _ ?_
  simp only [↓wp, ↓stp, ilen, lnth, st1, st2, nolong, nohead, rnth, ↓gfX, ↓pfX, gfV, pfV, cpF, cpP, cndZ, ↓tgo, ↓tsw, ↓lsw, ↓ldI, ↓ldA, ↓ldL, ↓stI, ↓stA, ↓stL, ↓bin, ↓binD, ↓binL, ↓binDL, ↓una, ↓acV, ↓acK, ↓acpy, ↓inv, entL, nones, List.length_cons, List.length_nil, List.take, List.drop, List.reverse_cons, List.reverse_nil, List.nil_append, List.cons_append, Option.toList_some, Option.toList_none, Nat.reduceAdd, Nat.reduceSub, Nat.reduceLT, Nat.reduceEqDiff, Fin.isValue, aTL, aSZ, Int.toNat_natCast, hset_same, hset_o, hset_s, hset_row, ne_eq, Nat.reduceBEq, beq_self_eq_true, Fin.val_zero, Fin.val_one, fin0, fin1, fin2, fin3, Nat.le_refl, Nat.reduceLeDiff, Nat.zero_le, Int.reduceAdd, Int.reduceNeg, Int.reduceLE, Int.reduceLT, Int.reduceToNat, Int.reduceMul, Int.cast_ofNat_Int, Nat.reduceMod, ↓reduceIte, if_true, if_false, and_true, true_and, or_true, true_or, false_or, or_false, and_self, not_true_eq_false, not_false_eq_true, Bool.false_eq_true, reduceCtorEq, false_implies, true_implies, implies_true, and_false, false_and, dX8_size_0, dX8_size_1, dX8_size_4, dX8_size_5, dX8_size_6, dX8_size_9, dX8_size_10, cpX8, mT_X8_size, SHl_58, SHl_59, SHl_60, SHl_61, SHl_62, SHl_63, SHl_64, SHl_65, SHl_66, SHl_67, SHl_68, SHl_69, SHl_70, SHl_71, SHl_72, SHl_73, SHl_74, SHl_75]
  refine ⟨r1, fun q => ?_, fun q => ?_⟩
  · rw [show (x.natAbs : Int) = x by omega] at hq; exact hq
  · rw [show (x.natAbs : Int) = -x by omega] at hq; exact hq
def S_X8_found : MSpec := fun a σ Q => match a with
  | [.inr (.inl 58), .inl f] => Q (some (.inl (-1000010 - f))) (hset σ 58 4 f)
  | _ => False
theorem rc_X8_found : ∀ a σ Q, S_X8_found a σ Q → ∃ (p : Nat) (r : List AV), a = .inr (.inl p) :: r ∧ p < 76 ∧ (SH p).1 = 4 ∧ (SH p).2.1 = 7 := by
  intro a σ Q h
  unfold S_X8_found at h
  split at h
  · exact ⟨58, _, rfl, by decide, rfl, rfl⟩
  · exact h.elim
def mT_X8_found (i : Nat) : Option (Nat × Bool × MSpec) := match i with
  | _ => none
theorem mT_X8_found_ok {l : Launch} {n : Nat} (hn : 0 ≤ n) : ∀ i e, mT_X8_found i = some e → mV l (rmOf n) RX8 i e := by
  intro i e h
  unfold mT_X8_found at h
  split at h
  · cases h
set_option maxRecDepth 100000 in
set_option maxHeartbeats 4000000 in
theorem ok_X8_found : ∀ l n, 0 ≤ n → ∀ a σ Q, S_X8_found a σ Q → AM l n yX8_found cX8_found 2 (some .int) a σ Q := by
  intro l n hn a σ Q hS
  unfold S_X8_found at hS
  split at hS
  rotate_left
  · exact hS.elim
  rename_i f
  obtain hq := hS
  refine am_ofF 1 cpX8 mT_X8_found (plainFor_of_name (by decide +kernel)) (rfl) (Nat.le_of_ble_eq_true rfl) (cpX8_ok) (mT_X8_found_ok hn) (fun K hK => ?_)
  refine hK (fun _ => false) 200 _ _ _ _ ?_
  simp only [↓wp, ↓stp, ilen, lnth, st1, st2, nolong, nohead, rnth, ↓gfX, ↓pfX, gfV, pfV, cpF, cpP, cndZ, ↓tgo, ↓tsw, ↓lsw, ↓ldI, ↓ldA, ↓ldL, ↓stI, ↓stA, ↓stL, ↓bin, ↓binD, ↓binL, ↓binDL, ↓una, ↓acV, ↓acK, ↓acpy, ↓inv, entL, nones, List.length_cons, List.length_nil, List.take, List.drop, List.reverse_cons, List.reverse_nil, List.nil_append, List.cons_append, Option.toList_some, Option.toList_none, Nat.reduceAdd, Nat.reduceSub, Nat.reduceLT, Nat.reduceEqDiff, Fin.isValue, aTL, aSZ, Int.toNat_natCast, hset_same, hset_o, hset_s, hset_row, ne_eq, Nat.reduceBEq, beq_self_eq_true, Fin.val_zero, Fin.val_one, fin0, fin1, fin2, fin3, Nat.le_refl, Nat.reduceLeDiff, Nat.zero_le, Int.reduceAdd, Int.reduceNeg, Int.reduceLE, Int.reduceLT, Int.reduceToNat, Int.reduceMul, Int.cast_ofNat_Int, Nat.reduceMod, ↓reduceIte, if_true, if_false, and_true, true_and, or_true, true_or, false_or, or_false, and_self, not_true_eq_false, not_false_eq_true, Bool.false_eq_true, reduceCtorEq, false_implies, true_implies, implies_true, and_false, false_and, dX8_found_0, dX8_found_1, dX8_found_2, dX8_found_5, dX8_found_7, dX8_found_8, dX8_found_9, cpX8, mT_X8_found, SHl_58, SHl_59, SHl_60, SHl_61, SHl_62, SHl_63, SHl_64, SHl_65, SHl_66, SHl_67, SHl_68, SHl_69, SHl_70, SHl_71, SHl_72, SHl_73, SHl_74, SHl_75]
  (repeat' (first | apply And.intro | intro _)) <;> first | omega | exact hq | (rw [if_pos (by omega)] at hq; exact hq) | (rw [if_neg (by omega)] at hq; exact hq) | (repeat (first | rw [if_pos (by omega)] at hq | rw [if_neg (by omega)] at hq)) <;> exact hq | assumption | exact R32_of _
def S_X8_well : MSpec := fun a σ Q => match a with
  | [.inr (.inl 58), .inl v] => Q (some (.inl v)) (hset σ 58 4 0)
  | _ => False
theorem rc_X8_well : ∀ a σ Q, S_X8_well a σ Q → ∃ (p : Nat) (r : List AV), a = .inr (.inl p) :: r ∧ p < 76 ∧ (SH p).1 = 4 ∧ (SH p).2.1 = 7 := by
  intro a σ Q h
  unfold S_X8_well at h
  split at h
  · exact ⟨58, _, rfl, by decide, rfl, rfl⟩
  · exact h.elim
def mT_X8_well (i : Nat) : Option (Nat × Bool × MSpec) := match i with
  | _ => none
theorem mT_X8_well_ok {l : Launch} {n : Nat} (hn : 0 ≤ n) : ∀ i e, mT_X8_well i = some e → mV l (rmOf n) RX8 i e := by
  intro i e h
  unfold mT_X8_well at h
  split at h
  · cases h
set_option maxRecDepth 100000 in
set_option maxHeartbeats 4000000 in
theorem ok_X8_well : ∀ l n, 0 ≤ n → ∀ a σ Q, S_X8_well a σ Q → AM l n yX8_well cX8_well 2 (some .int) a σ Q := by
  intro l n hn a σ Q hS
  unfold S_X8_well at hS
  split at hS
  rotate_left
  · exact hS.elim
  rename_i v
  obtain hq := hS
  refine am_ofF 1 cpX8 mT_X8_well (plainFor_of_name (by decide +kernel)) (rfl) (Nat.le_of_ble_eq_true rfl) (cpX8_ok) (mT_X8_well_ok hn) (fun K hK => ?_)
  refine hK (fun _ => false) 200 _ _ _ _ ?_
  simp only [↓wp, ↓stp, ilen, lnth, st1, st2, nolong, nohead, rnth, ↓gfX, ↓pfX, gfV, pfV, cpF, cpP, cndZ, ↓tgo, ↓tsw, ↓lsw, ↓ldI, ↓ldA, ↓ldL, ↓stI, ↓stA, ↓stL, ↓bin, ↓binD, ↓binL, ↓binDL, ↓una, ↓acV, ↓acK, ↓acpy, ↓inv, entL, nones, List.length_cons, List.length_nil, List.take, List.drop, List.reverse_cons, List.reverse_nil, List.nil_append, List.cons_append, Option.toList_some, Option.toList_none, Nat.reduceAdd, Nat.reduceSub, Nat.reduceLT, Nat.reduceEqDiff, Fin.isValue, aTL, aSZ, Int.toNat_natCast, hset_same, hset_o, hset_s, hset_row, ne_eq, Nat.reduceBEq, beq_self_eq_true, Fin.val_zero, Fin.val_one, fin0, fin1, fin2, fin3, Nat.le_refl, Nat.reduceLeDiff, Nat.zero_le, Int.reduceAdd, Int.reduceNeg, Int.reduceLE, Int.reduceLT, Int.reduceToNat, Int.reduceMul, Int.cast_ofNat_Int, Nat.reduceMod, ↓reduceIte, if_true, if_false, and_true, true_and, or_true, true_or, false_or, or_false, and_self, not_true_eq_false, not_false_eq_true, Bool.false_eq_true, reduceCtorEq, false_implies, true_implies, implies_true, and_false, false_and, dX8_well_0, dX8_well_1, dX8_well_2, dX8_well_5, dX8_well_6, cpX8, mT_X8_well, SHl_58, SHl_59, SHl_60, SHl_61, SHl_62, SHl_63, SHl_64, SHl_65, SHl_66, SHl_67, SHl_68, SHl_69, SHl_70, SHl_71, SHl_72, SHl_73, SHl_74, SHl_75]
  (repeat' (first | apply And.intro | intro _)) <;> first | omega | exact hq | (rw [if_pos (by omega)] at hq; exact hq) | (rw [if_neg (by omega)] at hq; exact hq) | (repeat (first | rw [if_pos (by omega)] at hq | rw [if_neg (by omega)] at hq)) <;> exact hq | assumption | exact R32_of _
def S_X8_isRow : MSpec := fun a σ Q => match a with
  | [.inl r] => R32 r ∧ Q (some (.inl (if 0 ≤ r ∧ r ≤ 7 then 1 else 0))) σ
  | _ => False
def mT_X8_isRow (i : Nat) : Option (Nat × Bool × MSpec) := match i with
  | 68 => some (3, false, S_X8_in)
  | _ => none
theorem mT_X8_isRow_ok {l : Launch} {n : Nat} (hn : 1 ≤ n) : ∀ i e, mT_X8_isRow i = some e → mV l (rmOf n) RX8 i e := by
  intro i e h
  unfold mT_X8_isRow at h
  split at h
  · cases h; exact mvS (lv := 0) mw_X8_in (by omega) (by decide) (by decide +kernel) (Or.inl (gtm 831 (by decide +kernel) (by decide +kernel))) ok_X8_in
  · cases h
set_option maxRecDepth 100000 in
set_option maxHeartbeats 4000000 in
theorem ok_X8_isRow : ∀ l n, 1 ≤ n → ∀ a σ Q, S_X8_isRow a σ Q → AM l n yX8_isRow cX8_isRow 1 (some .boolean) a σ Q := by
  intro l n hn a σ Q hS
  unfold S_X8_isRow at hS
  split at hS
  rotate_left
  · exact hS.elim
  rename_i r
  obtain ⟨⟨r1, r2⟩, hq⟩ := hS
  refine am_ofF 2 cpX8 mT_X8_isRow (plainFor_of_name (by decide +kernel)) (rfl) (Nat.le_of_ble_eq_true rfl) (cpX8_ok) (mT_X8_isRow_ok hn) (fun K hK => ?_)
  refine hK (fun _ => false) 200 _ _ _ _ ?_
  simp only [↓wp, ↓stp, ilen, lnth, st1, st2, nolong, nohead, rnth, ↓gfX, ↓pfX, gfV, pfV, cpF, cpP, cndZ, ↓tgo, ↓tsw, ↓lsw, ↓ldI, ↓ldA, ↓ldL, ↓stI, ↓stA, ↓stL, ↓bin, ↓binD, ↓binL, ↓binDL, ↓una, ↓acV, ↓acK, ↓acpy, ↓inv, entL, nones, List.length_cons, List.length_nil, List.take, List.drop, List.reverse_cons, List.reverse_nil, List.nil_append, List.cons_append, Option.toList_some, Option.toList_none, Nat.reduceAdd, Nat.reduceSub, Nat.reduceLT, Nat.reduceEqDiff, Fin.isValue, aTL, aSZ, Int.toNat_natCast, hset_same, hset_o, hset_s, hset_row, ne_eq, Nat.reduceBEq, beq_self_eq_true, Fin.val_zero, Fin.val_one, fin0, fin1, fin2, fin3, Nat.le_refl, Nat.reduceLeDiff, Nat.zero_le, Int.reduceAdd, Int.reduceNeg, Int.reduceLE, Int.reduceLT, Int.reduceToNat, Int.reduceMul, Int.cast_ofNat_Int, Nat.reduceMod, ↓reduceIte, if_true, if_false, and_true, true_and, or_true, true_or, false_or, or_false, and_self, not_true_eq_false, not_false_eq_true, Bool.false_eq_true, reduceCtorEq, false_implies, true_implies, implies_true, and_false, false_and, dX8_isRow_0, dX8_isRow_1, dX8_isRow_2, dX8_isRow_4, dX8_isRow_7, cpX8, mT_X8_isRow, SHl_58, SHl_59, SHl_60, SHl_61, SHl_62, SHl_63, SHl_64, SHl_65, SHl_66, SHl_67, SHl_68, SHl_69, SHl_70, SHl_71, SHl_72, SHl_73, SHl_74, SHl_75, S_X8_in]
  (repeat' (first | apply And.intro | intro _)) <;> first | omega | exact hq | (rw [if_pos (by omega)] at hq; exact hq) | (rw [if_neg (by omega)] at hq; exact hq) | (repeat (first | rw [if_pos (by omega)] at hq | rw [if_neg (by omega)] at hq)) <;> exact hq | assumption | exact R32_of _
def S_X8_isMissing : MSpec := fun a σ Q => match a with
  | [.inr (.inl 58), .inl r] => (0 ≤ r ∧ r < 8) ∧ R32 (σ 59 r.toNat) ∧ Q (some (.inl (if σ 59 r.toNat = -1000000 then 1 else 0))) σ
  | _ => False
theorem rc_X8_isMissing : ∀ a σ Q, S_X8_isMissing a σ Q → ∃ (p : Nat) (r : List AV), a = .inr (.inl p) :: r ∧ p < 76 ∧ (SH p).1 = 4 ∧ (SH p).2.1 = 7 := by
  intro a σ Q h
  unfold S_X8_isMissing at h
  split at h
  · exact ⟨58, _, rfl, by decide, rfl, rfl⟩
  · exact h.elim
def mT_X8_isMissing (i : Nat) : Option (Nat × Bool × MSpec) := match i with
  | _ => none
theorem mT_X8_isMissing_ok {l : Launch} {n : Nat} (hn : 0 ≤ n) : ∀ i e, mT_X8_isMissing i = some e → mV l (rmOf n) RX8 i e := by
  intro i e h
  unfold mT_X8_isMissing at h
  split at h
  · cases h
set_option maxRecDepth 100000 in
set_option maxHeartbeats 4000000 in
theorem ok_X8_isMissing : ∀ l n, 0 ≤ n → ∀ a σ Q, S_X8_isMissing a σ Q → AM l n yX8_isMissing cX8_isMissing 2 (some .boolean) a σ Q := by
  intro l n hn a σ Q hS
  unfold S_X8_isMissing at hS
  split at hS
  rotate_left
  · exact hS.elim
  rename_i r
  obtain ⟨r1, ⟨r2, r3⟩, hq⟩ := hS
  refine am_ofF 2 cpX8 mT_X8_isMissing (plainFor_of_name (by decide +kernel)) (rfl) (Nat.le_of_ble_eq_true rfl) (cpX8_ok) (mT_X8_isMissing_ok hn) (fun K hK => ?_)
  refine hK (fun _ => false) 200 _ _ _ _ ?_
  simp only [↓wp, ↓stp, ilen, lnth, st1, st2, nolong, nohead, rnth, ↓gfX, ↓pfX, gfV, pfV, cpF, cpP, cndZ, ↓tgo, ↓tsw, ↓lsw, ↓ldI, ↓ldA, ↓ldL, ↓stI, ↓stA, ↓stL, ↓bin, ↓binD, ↓binL, ↓binDL, ↓una, ↓acV, ↓acK, ↓acpy, ↓inv, entL, nones, List.length_cons, List.length_nil, List.take, List.drop, List.reverse_cons, List.reverse_nil, List.nil_append, List.cons_append, Option.toList_some, Option.toList_none, Nat.reduceAdd, Nat.reduceSub, Nat.reduceLT, Nat.reduceEqDiff, Fin.isValue, aTL, aSZ, Int.toNat_natCast, hset_same, hset_o, hset_s, hset_row, ne_eq, Nat.reduceBEq, beq_self_eq_true, Fin.val_zero, Fin.val_one, fin0, fin1, fin2, fin3, Nat.le_refl, Nat.reduceLeDiff, Nat.zero_le, Int.reduceAdd, Int.reduceNeg, Int.reduceLE, Int.reduceLT, Int.reduceToNat, Int.reduceMul, Int.cast_ofNat_Int, Nat.reduceMod, ↓reduceIte, if_true, if_false, and_true, true_and, or_true, true_or, false_or, or_false, and_self, not_true_eq_false, not_false_eq_true, Bool.false_eq_true, reduceCtorEq, false_implies, true_implies, implies_true, and_false, false_and, dX8_isMissing_0, dX8_isMissing_1, dX8_isMissing_4, dX8_isMissing_5, dX8_isMissing_6, dX8_isMissing_8, dX8_isMissing_11, dX8_isMissing_12, dX8_isMissing_15, dX8_isMissing_16, cpX8, mT_X8_isMissing, SHl_58, SHl_59, SHl_60, SHl_61, SHl_62, SHl_63, SHl_64, SHl_65, SHl_66, SHl_67, SHl_68, SHl_69, SHl_70, SHl_71, SHl_72, SHl_73, SHl_74, SHl_75]
  (repeat' (first | apply And.intro | intro _)) <;> first | omega | exact hq | (rw [if_pos (by omega)] at hq; exact hq) | (rw [if_neg (by omega)] at hq; exact hq) | (repeat (first | rw [if_pos (by omega)] at hq | rw [if_neg (by omega)] at hq)) <;> exact hq | assumption | exact R32_of _
theorem i32_cond (x : Int32) : x.toInt = if 2 * x.toBitVec.toNat < 4294967296 then (x.toBitVec.toNat : Int) else (x.toBitVec.toNat : Int) - 4294967296 := by
  have := BitVec.toInt_eq_toNat_cond x.toBitVec
  exact this
theorem zlow8 (v : Int) : zshr (zshl v 24) 24 = zi2b v := by
  unfold zshr zshl zi2b
  rw [iI_of, pk_shr _ _ 24 (by decide +kernel), i32_cond (iI v <<< (iI 24 &&& 31)), pk_shl _ _ 24 (by decide +kernel), Int8.toInt_toInt32, Int32.toInt_toInt8, i32_cond (iI v)]
  have hN := (iI v).toBitVec.isLt
  generalize (iI v).toBitVec.toNat = N at hN ⊢
  rw [Int.shiftRight_eq_div_pow]
  simp only [Int.bmod]
  omega
theorem zlow16 (v : Int) : zshr (zshl v 16) 16 = zi2s v := by
  unfold zshr zshl zi2s
  rw [iI_of, pk_shr _ _ 16 (by decide +kernel), i32_cond (iI v <<< (iI 16 &&& 31)), pk_shl _ _ 16 (by decide +kernel), Int16.toInt_toInt32, Int32.toInt_toInt16, i32_cond (iI v)]
  have hN := (iI v).toBitVec.isLt
  generalize (iI v).toBitVec.toNat = N at hN ⊢
  rw [Int.shiftRight_eq_div_pow]
  simp only [Int.bmod]
  omega
def S_X8_lowest : MSpec := fun a σ Q => match a with
  | [.inl ln, .inl v] => R32 ln ∧ Q (some (.inl (laneV ln v))) σ
  | _ => False
def mT_X8_lowest (i : Nat) : Option (Nat × Bool × MSpec) := match i with
  | _ => none
theorem mT_X8_lowest_ok {l : Launch} {n : Nat} (hn : 0 ≤ n) : ∀ i e, mT_X8_lowest i = some e → mV l (rmOf n) RX8 i e := by
  intro i e h
  unfold mT_X8_lowest at h
  split at h
  · cases h
set_option maxRecDepth 100000 in
set_option maxHeartbeats 4000000 in
theorem ok_X8_lowest : ∀ l n, 0 ≤ n → ∀ a σ Q, S_X8_lowest a σ Q → AM l n yX8_lowest cX8_lowest 2 (some .int) a σ Q := by
  intro l n hn a σ Q hS
  unfold S_X8_lowest at hS
  split at hS
  rotate_left
  · exact hS.elim
  rename_i ln v
  obtain ⟨⟨r1, r2⟩, hq⟩ := hS
  refine am_ofF 1 cpX8 mT_X8_lowest (plainFor_of_name (by decide +kernel)) (rfl) (Nat.le_of_ble_eq_true rfl) (cpX8_ok) (mT_X8_lowest_ok hn) (fun K hK => ?_)
  refine hK (fun _ => false) 200 _ _ _ _ ?_
  simp only [↓wp, ↓stp, ilen, lnth, st1, st2, nolong, nohead, rnth, ↓gfX, ↓pfX, gfV, pfV, cpF, cpP, cndZ, ↓tgo, ↓tsw, ↓lsw, ↓ldI, ↓ldA, ↓ldL, ↓stI, ↓stA, ↓stL, ↓bin, ↓binD, ↓binL, ↓binDL, ↓una, ↓acV, ↓acK, ↓acpy, ↓inv, entL, nones, List.length_cons, List.length_nil, List.take, List.drop, List.reverse_cons, List.reverse_nil, List.nil_append, List.cons_append, Option.toList_some, Option.toList_none, Nat.reduceAdd, Nat.reduceSub, Nat.reduceLT, Nat.reduceEqDiff, Fin.isValue, aTL, aSZ, Int.toNat_natCast, hset_same, hset_o, hset_s, hset_row, ne_eq, Nat.reduceBEq, beq_self_eq_true, Fin.val_zero, Fin.val_one, fin0, fin1, fin2, fin3, Nat.le_refl, Nat.reduceLeDiff, Nat.zero_le, Int.reduceAdd, Int.reduceNeg, Int.reduceLE, Int.reduceLT, Int.reduceToNat, Int.reduceMul, Int.cast_ofNat_Int, Nat.reduceMod, ↓reduceIte, if_true, if_false, and_true, true_and, or_true, true_or, false_or, or_false, and_self, not_true_eq_false, not_false_eq_true, Bool.false_eq_true, reduceCtorEq, false_implies, true_implies, implies_true, and_false, false_and, dX8_lowest_0, dX8_lowest_1, dX8_lowest_4, dX8_lowest_5, dX8_lowest_7, dX8_lowest_8, dX8_lowest_10, dX8_lowest_11, dX8_lowest_14, dX8_lowest_15, dX8_lowest_16, dX8_lowest_19, dX8_lowest_20, dX8_lowest_22, dX8_lowest_23, dX8_lowest_25, dX8_lowest_26, dX8_lowest_29, dX8_lowest_30, cpX8, mT_X8_lowest, SHl_58, SHl_59, SHl_60, SHl_61, SHl_62, SHl_63, SHl_64, SHl_65, SHl_66, SHl_67, SHl_68, SHl_69, SHl_70, SHl_71, SHl_72, SHl_73, SHl_74, SHl_75]
  unfold laneV at hq
  simp only [zlow8, zlow16]
  (repeat' (first | apply And.intro | intro _)) <;> first | omega | exact hq | (rw [if_pos (by omega)] at hq; exact hq) | (rw [if_neg (by omega)] at hq; exact hq) | (repeat (first | rw [if_pos (by omega)] at hq | rw [if_neg (by omega)] at hq)) <;> exact hq | assumption | exact R32_of _
def S_X8_isPart : MSpec := fun a σ Q => match a with
  | [.inr (.inl 58), .inl r, .inl i, .inl n] => (0 ≤ r ∧ r < 8) ∧ R32 i ∧ R32 n ∧ (0 ≤ σ 60 r.toNat ∧ σ 60 r.toNat ≤ 40) ∧ Q (some (.inl (if 0 ≤ i ∧ 0 ≤ n ∧ n ≤ σ 60 r.toNat - i then 1 else 0))) σ
  | _ => False
theorem rc_X8_isPart : ∀ a σ Q, S_X8_isPart a σ Q → ∃ (p : Nat) (r : List AV), a = .inr (.inl p) :: r ∧ p < 76 ∧ (SH p).1 = 4 ∧ (SH p).2.1 = 7 := by
  intro a σ Q h
  unfold S_X8_isPart at h
  split at h
  · exact ⟨58, _, rfl, by decide, rfl, rfl⟩
  · exact h.elim
def mT_X8_isPart (i : Nat) : Option (Nat × Bool × MSpec) := match i with
  | _ => none
theorem mT_X8_isPart_ok {l : Launch} {n : Nat} (hn : 0 ≤ n) : ∀ i e, mT_X8_isPart i = some e → mV l (rmOf n) RX8 i e := by
  intro i e h
  unfold mT_X8_isPart at h
  split at h
  · cases h
set_option maxRecDepth 100000 in
set_option maxHeartbeats 4000000 in
theorem ok_X8_isPart : ∀ l n, 0 ≤ n → ∀ a σ Q, S_X8_isPart a σ Q → AM l n yX8_isPart cX8_isPart 4 (some .boolean) a σ Q := by
  intro l n hn a σ Q hS
  unfold S_X8_isPart at hS
  split at hS
  rotate_left
  · exact hS.elim
  rename_i r i n
  obtain ⟨r1, ⟨i1, i2⟩, ⟨n1, n2⟩, r3, hq⟩ := hS
  refine am_ofF 2 cpX8 mT_X8_isPart (plainFor_of_name (by decide +kernel)) (rfl) (Nat.le_of_ble_eq_true rfl) (cpX8_ok) (mT_X8_isPart_ok hn) (fun K hK => ?_)
  refine hK (fun _ => false) 200 _ _ _ _ ?_
  simp only [↓wp, ↓stp, ilen, lnth, st1, st2, nolong, nohead, rnth, ↓gfX, ↓pfX, gfV, pfV, cpF, cpP, cndZ, ↓tgo, ↓tsw, ↓lsw, ↓ldI, ↓ldA, ↓ldL, ↓stI, ↓stA, ↓stL, ↓bin, ↓binD, ↓binL, ↓binDL, ↓una, ↓acV, ↓acK, ↓acpy, ↓inv, entL, nones, List.length_cons, List.length_nil, List.take, List.drop, List.reverse_cons, List.reverse_nil, List.nil_append, List.cons_append, Option.toList_some, Option.toList_none, Nat.reduceAdd, Nat.reduceSub, Nat.reduceLT, Nat.reduceEqDiff, Fin.isValue, aTL, aSZ, Int.toNat_natCast, hset_same, hset_o, hset_s, hset_row, ne_eq, Nat.reduceBEq, beq_self_eq_true, Fin.val_zero, Fin.val_one, fin0, fin1, fin2, fin3, Nat.le_refl, Nat.reduceLeDiff, Nat.zero_le, Int.reduceAdd, Int.reduceNeg, Int.reduceLE, Int.reduceLT, Int.reduceToNat, Int.reduceMul, Int.cast_ofNat_Int, Nat.reduceMod, ↓reduceIte, if_true, if_false, and_true, true_and, or_true, true_or, false_or, or_false, and_self, not_true_eq_false, not_false_eq_true, Bool.false_eq_true, reduceCtorEq, false_implies, true_implies, implies_true, and_false, false_and, dX8_isPart_0, dX8_isPart_1, dX8_isPart_4, dX8_isPart_5, dX8_isPart_8, dX8_isPart_9, dX8_isPart_10, dX8_isPart_13, dX8_isPart_14, dX8_isPart_15, dX8_isPart_18, dX8_isPart_19, dX8_isPart_20, dX8_isPart_23, dX8_isPart_24, dX8_isPart_25, dX8_isPart_26, dX8_isPart_27, dX8_isPart_30, dX8_isPart_31, dX8_isPart_34, dX8_isPart_35, cpX8, mT_X8_isPart, SHl_58, SHl_59, SHl_60, SHl_61, SHl_62, SHl_63, SHl_64, SHl_65, SHl_66, SHl_67, SHl_68, SHl_69, SHl_70, SHl_71, SHl_72, SHl_73, SHl_74, SHl_75]
  (repeat' (first | apply And.intro | intro _)) <;> first | omega | exact hq | (rw [if_pos (by omega)] at hq; exact hq) | (rw [if_neg (by omega)] at hq; exact hq) | (repeat (first | rw [if_pos (by omega)] at hq | rw [if_neg (by omega)] at hq)) <;> exact hq | assumption | exact R32_of _
def S_X8_row : MSpec := fun a σ Q => match a with
  | [.inr (.inl 58), .inl r, .inl ln, .inl n] => R32 r ∧ R32 ln ∧ R32 n ∧ (if ¬ (0 ≤ r ∧ r ≤ 7) ∨ ¬ (0 ≤ ln ∧ ln ≤ 2) ∨ 40 < n then Q (some (.inl (-1000001))) σ else if n < 0 then Q (some (.inl (-1000014))) (hset σ 58 4 4) else Q (some (.inl n)) (hset (hfill (hset (hset σ 59 r.toNat ln) 60 r.toNat n) 61 (40 * r).toNat 40) 58 4 0))
  | _ => False
theorem rc_X8_row : ∀ a σ Q, S_X8_row a σ Q → ∃ (p : Nat) (r : List AV), a = .inr (.inl p) :: r ∧ p < 76 ∧ (SH p).1 = 4 ∧ (SH p).2.1 = 7 := by
  intro a σ Q h
  unfold S_X8_row at h
  split at h
  · exact ⟨58, _, rfl, by decide, rfl, rfl⟩
  · exact h.elim
def mT_X8_row (i : Nat) : Option (Nat × Bool × MSpec) := match i with
  | 68 => some (3, false, S_X8_in)
  | 72 => some (1, false, S_X8_isRow)
  | 77 => some (2, true, S_X8_found)
  | 81 => some (2, true, S_X8_well)
  | _ => none
theorem mT_X8_row_ok {l : Launch} {n : Nat} (hn : 2 ≤ n) : ∀ i e, mT_X8_row i = some e → mV l (rmOf n) RX8 i e := by
  intro i e h
  unfold mT_X8_row at h
  split at h
  · cases h; exact mvS (lv := 0) mw_X8_in (by omega) (by decide) (by decide +kernel) (Or.inl (gtm 831 (by decide +kernel) (by decide +kernel))) ok_X8_in
  · cases h; exact mvS (lv := 1) mw_X8_isRow (by omega) (by decide) (by decide +kernel) (Or.inl (gtm 828 (by decide +kernel) (by decide +kernel))) ok_X8_isRow
  · cases h; exact mvI (lv := 0) (ci := 7) (T := TX8) (N := 28) mw_X8_found rfl (by omega) (by decide) (by decide +kernel) (gtm 835 (by decide +kernel) (by decide +kernel)) rc_X8_found ok_X8_found
  · cases h; exact mvI (lv := 0) (ci := 7) (T := TX8) (N := 28) mw_X8_well rfl (by omega) (by decide) (by decide +kernel) (gtm 840 (by decide +kernel) (by decide +kernel)) rc_X8_well ok_X8_well
  · cases h
set_option maxRecDepth 100000 in
set_option maxHeartbeats 4000000 in
theorem ok_X8_row : ∀ l n, 2 ≤ n → ∀ a σ Q, S_X8_row a σ Q → AM l n yX8_row cX8_row 5 (some .int) a σ Q := by
  intro l n hn a σ Q hS
  unfold S_X8_row at hS
  split at hS
  rotate_left
  · exact hS.elim
  rename_i r ln nn
  obtain ⟨⟨r1, r2⟩, ⟨l1, l2⟩, ⟨n1, n2⟩, hq⟩ := hS
  refine am_ofF 1 cpX8 mT_X8_row (plainFor_of_name (by decide +kernel)) (rfl) (Nat.le_of_ble_eq_true rfl) (cpX8_ok) (mT_X8_row_ok hn) (fun K hK => ?_)
  have loop : 0 ≤ r ∧ r ≤ 7 → 0 ≤ ln ∧ ln ≤ 2 → ¬ 40 < nn → 0 ≤ nn → ∀ (k i : Nat), i + k = 40 → K 52 [some (.inr (.inl 58)), some (.inl r), some (.inl ln), some (.inl nn), some (.inl (i : Int))] [] (hfill (hset (hset σ 59 r.toNat ln) 60 r.toNat nn) 61 (40 * r).toNat i) := by
    intro b1 b2 b3 b4 k
    rw [if_neg (by omega), if_neg (by omega)] at hq
    induction k with
    | zero =>
      intro i hi
      refine hK (fun q => q == 52) 60 _ _ _ _ ?_
      simp only [↓wp, ↓stp, ilen, lnth, st1, st2, nolong, nohead, rnth, ↓gfX, ↓pfX, gfV, pfV, cpF, cpP, cndZ, ↓tgo, ↓tsw, ↓lsw, ↓ldI, ↓ldA, ↓ldL, ↓stI, ↓stA, ↓stL, ↓bin, ↓binD, ↓binL, ↓binDL, ↓una, ↓acV, ↓acK, ↓acpy, ↓inv, entL, nones, List.length_cons, List.length_nil, List.take, List.drop, List.reverse_cons, List.reverse_nil, List.nil_append, List.cons_append, Option.toList_some, Option.toList_none, Nat.reduceAdd, Nat.reduceSub, Nat.reduceLT, Nat.reduceEqDiff, Fin.isValue, aTL, aSZ, Int.toNat_natCast, hset_same, hset_o, hset_s, hset_row, ne_eq, Nat.reduceBEq, beq_self_eq_true, Fin.val_zero, Fin.val_one, fin0, fin1, fin2, fin3, Nat.le_refl, Nat.reduceLeDiff, Nat.zero_le, Int.reduceAdd, Int.reduceNeg, Int.reduceLE, Int.reduceLT, Int.reduceToNat, Int.reduceMul, Int.cast_ofNat_Int, Nat.reduceMod, ↓reduceIte, if_true, if_false, and_true, true_and, or_true, true_or, false_or, or_false, and_self, not_true_eq_false, not_false_eq_true, Bool.false_eq_true, reduceCtorEq, false_implies, true_implies, implies_true, and_false, false_and, dX8_row_0, dX8_row_1, dX8_row_4, dX8_row_7, dX8_row_8, dX8_row_9, dX8_row_10, dX8_row_13, dX8_row_16, dX8_row_17, dX8_row_19, dX8_row_22, dX8_row_24, dX8_row_25, dX8_row_26, dX8_row_29, dX8_row_30, dX8_row_31, dX8_row_34, dX8_row_35, dX8_row_36, dX8_row_39, dX8_row_40, dX8_row_41, dX8_row_42, dX8_row_43, dX8_row_46, dX8_row_47, dX8_row_48, dX8_row_49, dX8_row_50, dX8_row_52, dX8_row_54, dX8_row_56, dX8_row_59, dX8_row_60, dX8_row_63, dX8_row_65, dX8_row_66, dX8_row_67, dX8_row_69, dX8_row_70, dX8_row_71, dX8_row_72, dX8_row_75, dX8_row_78, dX8_row_79, dX8_row_80, dX8_row_83, cpX8, mT_X8_row, SHl_58, SHl_59, SHl_60, SHl_61, SHl_62, SHl_63, SHl_64, SHl_65, SHl_66, SHl_67, SHl_68, SHl_69, SHl_70, SHl_71, SHl_72, SHl_73, SHl_74, SHl_75, S_X8_found, S_X8_in, S_X8_isRow, S_X8_well]
      refine ⟨⟨by omega, by omega⟩, ⟨by omega, by omega⟩, fun q => ?_, fun q => by omega⟩
      rw [show i = 40 by omega]
      exact hq
    | succ k ih =>
      intro i hi
      refine hK (fun q => q == 52) 60 _ _ _ _ ?_
      simp only [↓wp, ↓stp, ilen, lnth, st1, st2, nolong, nohead, rnth, ↓gfX, ↓pfX, gfV, pfV, cpF, cpP, cndZ, ↓tgo, ↓tsw, ↓lsw, ↓ldI, ↓ldA, ↓ldL, ↓stI, ↓stA, ↓stL, ↓bin, ↓binD, ↓binL, ↓binDL, ↓una, ↓acV, ↓acK, ↓acpy, ↓inv, entL, nones, List.length_cons, List.length_nil, List.take, List.drop, List.reverse_cons, List.reverse_nil, List.nil_append, List.cons_append, Option.toList_some, Option.toList_none, Nat.reduceAdd, Nat.reduceSub, Nat.reduceLT, Nat.reduceEqDiff, Fin.isValue, aTL, aSZ, Int.toNat_natCast, hset_same, hset_o, hset_s, hset_row, ne_eq, Nat.reduceBEq, beq_self_eq_true, Fin.val_zero, Fin.val_one, fin0, fin1, fin2, fin3, Nat.le_refl, Nat.reduceLeDiff, Nat.zero_le, Int.reduceAdd, Int.reduceNeg, Int.reduceLE, Int.reduceLT, Int.reduceToNat, Int.reduceMul, Int.cast_ofNat_Int, Nat.reduceMod, ↓reduceIte, if_true, if_false, and_true, true_and, or_true, true_or, false_or, or_false, and_self, not_true_eq_false, not_false_eq_true, Bool.false_eq_true, reduceCtorEq, false_implies, true_implies, implies_true, and_false, false_and, dX8_row_0, dX8_row_1, dX8_row_4, dX8_row_7, dX8_row_8, dX8_row_9, dX8_row_10, dX8_row_13, dX8_row_16, dX8_row_17, dX8_row_19, dX8_row_22, dX8_row_24, dX8_row_25, dX8_row_26, dX8_row_29, dX8_row_30, dX8_row_31, dX8_row_34, dX8_row_35, dX8_row_36, dX8_row_39, dX8_row_40, dX8_row_41, dX8_row_42, dX8_row_43, dX8_row_46, dX8_row_47, dX8_row_48, dX8_row_49, dX8_row_50, dX8_row_52, dX8_row_54, dX8_row_56, dX8_row_59, dX8_row_60, dX8_row_63, dX8_row_65, dX8_row_66, dX8_row_67, dX8_row_69, dX8_row_70, dX8_row_71, dX8_row_72, dX8_row_75, dX8_row_78, dX8_row_79, dX8_row_80, dX8_row_83, cpX8, mT_X8_row, SHl_58, SHl_59, SHl_60, SHl_61, SHl_62, SHl_63, SHl_64, SHl_65, SHl_66, SHl_67, SHl_68, SHl_69, SHl_70, SHl_71, SHl_72, SHl_73, SHl_74, SHl_75, S_X8_found, S_X8_in, S_X8_isRow, S_X8_well]
      refine ⟨⟨by omega, by omega⟩, ⟨by omega, by omega⟩, fun q => by omega, fun q => ⟨by omega, by omega, ?_⟩⟩
      have := ih (i + 1) (by omega)
      rw [← hfill_step, show (40 * r).toNat + i = (40 * r + (i : Int)).toNat by omega] at this
      exact this
  refine hK (fun q => q == 52) 60 _ _ _ _ ?_
  simp only [↓wp, ↓stp, ilen, lnth, st1, st2, nolong, nohead, rnth, ↓gfX, ↓pfX, gfV, pfV, cpF, cpP, cndZ, ↓tgo, ↓tsw, ↓lsw, ↓ldI, ↓ldA, ↓ldL, ↓stI, ↓stA, ↓stL, ↓bin, ↓binD, ↓binL, ↓binDL, ↓una, ↓acV, ↓acK, ↓acpy, ↓inv, entL, nones, List.length_cons, List.length_nil, List.take, List.drop, List.reverse_cons, List.reverse_nil, List.nil_append, List.cons_append, Option.toList_some, Option.toList_none, Nat.reduceAdd, Nat.reduceSub, Nat.reduceLT, Nat.reduceEqDiff, Fin.isValue, aTL, aSZ, Int.toNat_natCast, hset_same, hset_o, hset_s, hset_row, ne_eq, Nat.reduceBEq, beq_self_eq_true, Fin.val_zero, Fin.val_one, fin0, fin1, fin2, fin3, Nat.le_refl, Nat.reduceLeDiff, Nat.zero_le, Int.reduceAdd, Int.reduceNeg, Int.reduceLE, Int.reduceLT, Int.reduceToNat, Int.reduceMul, Int.cast_ofNat_Int, Nat.reduceMod, ↓reduceIte, if_true, if_false, and_true, true_and, or_true, true_or, false_or, or_false, and_self, not_true_eq_false, not_false_eq_true, Bool.false_eq_true, reduceCtorEq, false_implies, true_implies, implies_true, and_false, false_and, dX8_row_0, dX8_row_1, dX8_row_4, dX8_row_7, dX8_row_8, dX8_row_9, dX8_row_10, dX8_row_13, dX8_row_16, dX8_row_17, dX8_row_19, dX8_row_22, dX8_row_24, dX8_row_25, dX8_row_26, dX8_row_29, dX8_row_30, dX8_row_31, dX8_row_34, dX8_row_35, dX8_row_36, dX8_row_39, dX8_row_40, dX8_row_41, dX8_row_42, dX8_row_43, dX8_row_46, dX8_row_47, dX8_row_48, dX8_row_49, dX8_row_50, dX8_row_52, dX8_row_54, dX8_row_56, dX8_row_59, dX8_row_60, dX8_row_63, dX8_row_65, dX8_row_66, dX8_row_67, dX8_row_69, dX8_row_70, dX8_row_71, dX8_row_72, dX8_row_75, dX8_row_78, dX8_row_79, dX8_row_80, dX8_row_83, cpX8, mT_X8_row, SHl_58, SHl_59, SHl_60, SHl_61, SHl_62, SHl_63, SHl_64, SHl_65, SHl_66, SHl_67, SHl_68, SHl_69, SHl_70, SHl_71, SHl_72, SHl_73, SHl_74, SHl_75, S_X8_found, S_X8_in, S_X8_isRow, S_X8_well]
  have l0 := fun a b c d => loop a b c d 40 0 (by omega)
  simp only [hfill_0] at l0
  (repeat' (first | apply And.intro | intro _)) <;> first | omega | (exact l0 (by omega) (by omega) (by omega) (by omega)) | (repeat (first | rw [if_pos (by omega)] at hq | rw [if_neg (by omega)] at hq)) <;> exact hq
def S_X8_set : MSpec := fun a σ Q => match a with
  | [.inr (.inl 58), .inl r, .inl i, .inl v] => R32 r ∧ R32 i ∧ R32 v ∧ (∀ r, r < 8 → R32 (σ 59 r) ∧ (0 ≤ σ 60 r ∧ σ 60 r ≤ 40)) ∧ (if ¬ (0 ≤ r ∧ r ≤ 7) then Q (some (.inl (-1000001))) σ else if σ 59 r.toNat = -1000000 then Q (some (.inl (-1000011))) (hset σ 58 4 1) else if ¬ (0 ≤ i ∧ i ≤ σ 60 r.toNat - 1) then Q (some (.inl (-1000012))) (hset σ 58 4 2) else Q (some (.inl (laneV (σ 59 r.toNat) v))) (hset (hset σ 61 (40 * r + i).toNat (laneV (σ 59 r.toNat) v)) 58 4 0))
  | _ => False
theorem rc_X8_set : ∀ a σ Q, S_X8_set a σ Q → ∃ (p : Nat) (r : List AV), a = .inr (.inl p) :: r ∧ p < 76 ∧ (SH p).1 = 4 ∧ (SH p).2.1 = 7 := by
  intro a σ Q h
  unfold S_X8_set at h
  split at h
  · exact ⟨58, _, rfl, by decide, rfl, rfl⟩
  · exact h.elim
def mT_X8_set (i : Nat) : Option (Nat × Bool × MSpec) := match i with
  | 68 => some (3, false, S_X8_in)
  | 72 => some (1, false, S_X8_isRow)
  | 77 => some (2, true, S_X8_found)
  | 81 => some (2, true, S_X8_well)
  | 84 => some (2, true, S_X8_isMissing)
  | 87 => some (2, false, S_X8_lowest)
  | _ => none
theorem mT_X8_set_ok {l : Launch} {n : Nat} (hn : 2 ≤ n) : ∀ i e, mT_X8_set i = some e → mV l (rmOf n) RX8 i e := by
  intro i e h
  unfold mT_X8_set at h
  split at h
  · cases h; exact mvS (lv := 0) mw_X8_in (by omega) (by decide) (by decide +kernel) (Or.inl (gtm 831 (by decide +kernel) (by decide +kernel))) ok_X8_in
  · cases h; exact mvS (lv := 1) mw_X8_isRow (by omega) (by decide) (by decide +kernel) (Or.inl (gtm 828 (by decide +kernel) (by decide +kernel))) ok_X8_isRow
  · cases h; exact mvI (lv := 0) (ci := 7) (T := TX8) (N := 28) mw_X8_found rfl (by omega) (by decide) (by decide +kernel) (gtm 835 (by decide +kernel) (by decide +kernel)) rc_X8_found ok_X8_found
  · cases h; exact mvI (lv := 0) (ci := 7) (T := TX8) (N := 28) mw_X8_well rfl (by omega) (by decide) (by decide +kernel) (gtm 840 (by decide +kernel) (by decide +kernel)) rc_X8_well ok_X8_well
  · cases h; exact mvI (lv := 0) (ci := 7) (T := TX8) (N := 28) mw_X8_isMissing rfl (by omega) (by decide) (by decide +kernel) (gtm 848 (by decide +kernel) (by decide +kernel)) rc_X8_isMissing ok_X8_isMissing
  · cases h; exact mvS (lv := 0) mw_X8_lowest (by omega) (by decide) (by decide +kernel) (Or.inl (gtm 852 (by decide +kernel) (by decide +kernel))) ok_X8_lowest
  · cases h
set_option maxRecDepth 100000 in
set_option maxHeartbeats 4000000 in
theorem ok_X8_set : ∀ l n, 2 ≤ n → ∀ a σ Q, S_X8_set a σ Q → AM l n yX8_set cX8_set 4 (some .int) a σ Q := by
  intro l n hn a σ Q hS
  unfold S_X8_set at hS
  split at hS
  rotate_left
  · exact hS.elim
  rename_i r i v
  obtain ⟨⟨r1, r2⟩, ⟨i1, i2⟩, ⟨v1, v2⟩, hI, hq⟩ := hS
  refine am_ofF 1 cpX8 mT_X8_set (plainFor_of_name (by decide +kernel)) (rfl) (Nat.le_of_ble_eq_true rfl) (cpX8_ok) (mT_X8_set_ok hn) (fun K hK => ?_)
  refine hK (fun _ => false) 200 _ _ _ _ ?_
  simp only [↓wp, ↓stp, ilen, lnth, st1, st2, nolong, nohead, rnth, ↓gfX, ↓pfX, gfV, pfV, cpF, cpP, cndZ, ↓tgo, ↓tsw, ↓lsw, ↓ldI, ↓ldA, ↓ldL, ↓stI, ↓stA, ↓stL, ↓bin, ↓binD, ↓binL, ↓binDL, ↓una, ↓acV, ↓acK, ↓acpy, ↓inv, entL, nones, List.length_cons, List.length_nil, List.take, List.drop, List.reverse_cons, List.reverse_nil, List.nil_append, List.cons_append, Option.toList_some, Option.toList_none, Nat.reduceAdd, Nat.reduceSub, Nat.reduceLT, Nat.reduceEqDiff, Fin.isValue, aTL, aSZ, Int.toNat_natCast, hset_same, hset_o, hset_s, hset_row, ne_eq, Nat.reduceBEq, beq_self_eq_true, Fin.val_zero, Fin.val_one, fin0, fin1, fin2, fin3, Nat.le_refl, Nat.reduceLeDiff, Nat.zero_le, Int.reduceAdd, Int.reduceNeg, Int.reduceLE, Int.reduceLT, Int.reduceToNat, Int.reduceMul, Int.cast_ofNat_Int, Nat.reduceMod, ↓reduceIte, if_true, if_false, and_true, true_and, or_true, true_or, false_or, or_false, and_self, not_true_eq_false, not_false_eq_true, Bool.false_eq_true, reduceCtorEq, false_implies, true_implies, implies_true, and_false, false_and, dX8_set_0, dX8_set_1, dX8_set_4, dX8_set_7, dX8_set_9, dX8_set_10, dX8_set_11, dX8_set_12, dX8_set_15, dX8_set_18, dX8_set_19, dX8_set_20, dX8_set_23, dX8_set_24, dX8_set_25, dX8_set_26, dX8_set_27, dX8_set_30, dX8_set_31, dX8_set_32, dX8_set_33, dX8_set_34, dX8_set_37, dX8_set_40, dX8_set_41, dX8_set_42, dX8_set_45, dX8_set_46, dX8_set_47, dX8_set_50, dX8_set_52, dX8_set_53, dX8_set_54, dX8_set_55, dX8_set_56, dX8_set_57, dX8_set_60, dX8_set_61, dX8_set_62, dX8_set_63, dX8_set_66, dX8_set_67, dX8_set_68, dX8_set_69, dX8_set_72, dX8_set_74, dX8_set_75, dX8_set_76, dX8_set_77, dX8_set_78, dX8_set_79, dX8_set_82, cpX8, mT_X8_set, SHl_58, SHl_59, SHl_60, SHl_61, SHl_62, SHl_63, SHl_64, SHl_65, SHl_66, SHl_67, SHl_68, SHl_69, SHl_70, SHl_71, SHl_72, SHl_73, SHl_74, SHl_75, S_X8_found, S_X8_in, S_X8_isMissing, S_X8_isRow, S_X8_lowest, S_X8_well]
  by_cases hr : 0 ≤ r ∧ r < 8
  · obtain ⟨⟨h1, h2⟩, h3⟩ := hI r.toNat (by omega)
    (repeat' (first | apply And.intro | intro _)) <;> first | omega | exact hq | (rw [if_pos (by omega)] at hq; exact hq) | (rw [if_neg (by omega)] at hq; exact hq) | (repeat (first | rw [if_pos (by omega)] at hq | rw [if_neg (by omega)] at hq)) <;> exact hq | assumption | exact R32_of _
  · (repeat' (first | apply And.intro | intro _)) <;> first | omega | exact hq | (rw [if_pos (by omega)] at hq; exact hq) | (rw [if_neg (by omega)] at hq; exact hq) | (repeat (first | rw [if_pos (by omega)] at hq | rw [if_neg (by omega)] at hq)) <;> exact hq | assumption | exact R32_of _
def S_X8_drop : MSpec := fun a σ Q => match a with
  | [.inr (.inl 58), .inl r] => R32 r ∧ (∀ r, r < 8 → R32 (σ 59 r) ∧ (0 ≤ σ 60 r ∧ σ 60 r ≤ 40)) ∧ (if ¬ (0 ≤ r ∧ r ≤ 7) then Q (some (.inl (-1000001))) σ else if σ 59 r.toNat = -1000000 then Q (some (.inl (-1000011))) (hset σ 58 4 1) else Q (some (.inl (σ 60 r.toNat))) (hset (hset σ 59 r.toNat (-1000000)) 58 4 0))
  | _ => False
theorem rc_X8_drop : ∀ a σ Q, S_X8_drop a σ Q → ∃ (p : Nat) (r : List AV), a = .inr (.inl p) :: r ∧ p < 76 ∧ (SH p).1 = 4 ∧ (SH p).2.1 = 7 := by
  intro a σ Q h
  unfold S_X8_drop at h
  split at h
  · exact ⟨58, _, rfl, by decide, rfl, rfl⟩
  · exact h.elim
def mT_X8_drop (i : Nat) : Option (Nat × Bool × MSpec) := match i with
  | 72 => some (1, false, S_X8_isRow)
  | 77 => some (2, true, S_X8_found)
  | 81 => some (2, true, S_X8_well)
  | 84 => some (2, true, S_X8_isMissing)
  | _ => none
theorem mT_X8_drop_ok {l : Launch} {n : Nat} (hn : 2 ≤ n) : ∀ i e, mT_X8_drop i = some e → mV l (rmOf n) RX8 i e := by
  intro i e h
  unfold mT_X8_drop at h
  split at h
  · cases h; exact mvS (lv := 1) mw_X8_isRow (by omega) (by decide) (by decide +kernel) (Or.inl (gtm 828 (by decide +kernel) (by decide +kernel))) ok_X8_isRow
  · cases h; exact mvI (lv := 0) (ci := 7) (T := TX8) (N := 28) mw_X8_found rfl (by omega) (by decide) (by decide +kernel) (gtm 835 (by decide +kernel) (by decide +kernel)) rc_X8_found ok_X8_found
  · cases h; exact mvI (lv := 0) (ci := 7) (T := TX8) (N := 28) mw_X8_well rfl (by omega) (by decide) (by decide +kernel) (gtm 840 (by decide +kernel) (by decide +kernel)) rc_X8_well ok_X8_well
  · cases h; exact mvI (lv := 0) (ci := 7) (T := TX8) (N := 28) mw_X8_isMissing rfl (by omega) (by decide) (by decide +kernel) (gtm 848 (by decide +kernel) (by decide +kernel)) rc_X8_isMissing ok_X8_isMissing
  · cases h
set_option maxRecDepth 100000 in
set_option maxHeartbeats 4000000 in
theorem ok_X8_drop : ∀ l n, 2 ≤ n → ∀ a σ Q, S_X8_drop a σ Q → AM l n yX8_drop cX8_drop 2 (some .int) a σ Q := by
  intro l n hn a σ Q hS
  unfold S_X8_drop at hS
  split at hS
  rotate_left
  · exact hS.elim
  rename_i r
  obtain ⟨⟨r1, r2⟩, hI, hq⟩ := hS
  refine am_ofF 1 cpX8 mT_X8_drop (plainFor_of_name (by decide +kernel)) (rfl) (Nat.le_of_ble_eq_true rfl) (cpX8_ok) (mT_X8_drop_ok hn) (fun K hK => ?_)
  refine hK (fun _ => false) 200 _ _ _ _ ?_
  simp only [↓wp, ↓stp, ilen, lnth, st1, st2, nolong, nohead, rnth, ↓gfX, ↓pfX, gfV, pfV, cpF, cpP, cndZ, ↓tgo, ↓tsw, ↓lsw, ↓ldI, ↓ldA, ↓ldL, ↓stI, ↓stA, ↓stL, ↓bin, ↓binD, ↓binL, ↓binDL, ↓una, ↓acV, ↓acK, ↓acpy, ↓inv, entL, nones, List.length_cons, List.length_nil, List.take, List.drop, List.reverse_cons, List.reverse_nil, List.nil_append, List.cons_append, Option.toList_some, Option.toList_none, Nat.reduceAdd, Nat.reduceSub, Nat.reduceLT, Nat.reduceEqDiff, Fin.isValue, aTL, aSZ, Int.toNat_natCast, hset_same, hset_o, hset_s, hset_row, ne_eq, Nat.reduceBEq, beq_self_eq_true, Fin.val_zero, Fin.val_one, fin0, fin1, fin2, fin3, Nat.le_refl, Nat.reduceLeDiff, Nat.zero_le, Int.reduceAdd, Int.reduceNeg, Int.reduceLE, Int.reduceLT, Int.reduceToNat, Int.reduceMul, Int.cast_ofNat_Int, Nat.reduceMod, ↓reduceIte, if_true, if_false, and_true, true_and, or_true, true_or, false_or, or_false, and_self, not_true_eq_false, not_false_eq_true, Bool.false_eq_true, reduceCtorEq, false_implies, true_implies, implies_true, and_false, false_and, dX8_drop_0, dX8_drop_1, dX8_drop_4, dX8_drop_7, dX8_drop_9, dX8_drop_10, dX8_drop_11, dX8_drop_12, dX8_drop_15, dX8_drop_18, dX8_drop_19, dX8_drop_20, dX8_drop_23, dX8_drop_24, dX8_drop_25, dX8_drop_28, dX8_drop_29, dX8_drop_31, dX8_drop_32, dX8_drop_33, dX8_drop_34, dX8_drop_37, dX8_drop_38, dX8_drop_39, dX8_drop_42, cpX8, mT_X8_drop, SHl_58, SHl_59, SHl_60, SHl_61, SHl_62, SHl_63, SHl_64, SHl_65, SHl_66, SHl_67, SHl_68, SHl_69, SHl_70, SHl_71, SHl_72, SHl_73, SHl_74, SHl_75, S_X8_found, S_X8_isMissing, S_X8_isRow, S_X8_well]
  by_cases hr : 0 ≤ r ∧ r < 8
  · obtain ⟨⟨h1, h2⟩, h3⟩ := hI r.toNat (by omega)
    (repeat' (first | apply And.intro | intro _)) <;> first | omega | exact hq | (rw [if_pos (by omega)] at hq; exact hq) | (rw [if_neg (by omega)] at hq; exact hq) | (repeat (first | rw [if_pos (by omega)] at hq | rw [if_neg (by omega)] at hq)) <;> exact hq | assumption | exact R32_of _
  · (repeat' (first | apply And.intro | intro _)) <;> first | omega | exact hq | (rw [if_pos (by omega)] at hq; exact hq) | (rw [if_neg (by omega)] at hq; exact hq) | (repeat (first | rw [if_pos (by omega)] at hq | rw [if_neg (by omega)] at hq)) <;> exact hq | assumption | exact R32_of _
def S_X8_feed : MSpec := fun a σ Q => match a with
  | [.inr (.inl 58), .inl v] => R32 v ∧ (0 ≤ σ 58 6 ∧ σ 58 6 ≤ 130) ∧ (if ¬ (0 ≤ v ∧ v ≤ 255) then Q (some (.inl (-1000001))) σ else if σ 58 6 = 130 then Q (some (.inl (-1000003))) σ else Q (some (.inl (σ 58 6 + 1))) (hset (hset σ 63 (σ 58 6).toNat v) 58 6 (σ 58 6 + 1)))
  | _ => False
theorem rc_X8_feed : ∀ a σ Q, S_X8_feed a σ Q → ∃ (p : Nat) (r : List AV), a = .inr (.inl p) :: r ∧ p < 76 ∧ (SH p).1 = 4 ∧ (SH p).2.1 = 7 := by
  intro a σ Q h
  unfold S_X8_feed at h
  split at h
  · exact ⟨58, _, rfl, by decide, rfl, rfl⟩
  · exact h.elim
def mT_X8_feed (i : Nat) : Option (Nat × Bool × MSpec) := match i with
  | 68 => some (3, false, S_X8_in)
  | _ => none
theorem mT_X8_feed_ok {l : Launch} {n : Nat} (hn : 1 ≤ n) : ∀ i e, mT_X8_feed i = some e → mV l (rmOf n) RX8 i e := by
  intro i e h
  unfold mT_X8_feed at h
  split at h
  · cases h; exact mvS (lv := 0) mw_X8_in (by omega) (by decide) (by decide +kernel) (Or.inl (gtm 831 (by decide +kernel) (by decide +kernel))) ok_X8_in
  · cases h
set_option maxRecDepth 100000 in
set_option maxHeartbeats 4000000 in
theorem ok_X8_feed : ∀ l n, 1 ≤ n → ∀ a σ Q, S_X8_feed a σ Q → AM l n yX8_feed cX8_feed 2 (some .int) a σ Q := by
  intro l n hn a σ Q hS
  unfold S_X8_feed at hS
  split at hS
  rotate_left
  · exact hS.elim
  rename_i v
  obtain ⟨⟨v1, v2⟩, h1, hq⟩ := hS
  refine am_ofF 1 cpX8 mT_X8_feed (plainFor_of_name (by decide +kernel)) (rfl) (Nat.le_of_ble_eq_true rfl) (cpX8_ok) (mT_X8_feed_ok hn) (fun K hK => ?_)
  refine hK (fun _ => false) 200 _ _ _ _ ?_
  simp only [↓wp, ↓stp, ilen, lnth, st1, st2, nolong, nohead, rnth, ↓gfX, ↓pfX, gfV, pfV, cpF, cpP, cndZ, ↓tgo, ↓tsw, ↓lsw, ↓ldI, ↓ldA, ↓ldL, ↓stI, ↓stA, ↓stL, ↓bin, ↓binD, ↓binL, ↓binDL, ↓una, ↓acV, ↓acK, ↓acpy, ↓inv, entL, nones, List.length_cons, List.length_nil, List.take, List.drop, List.reverse_cons, List.reverse_nil, List.nil_append, List.cons_append, Option.toList_some, Option.toList_none, Nat.reduceAdd, Nat.reduceSub, Nat.reduceLT, Nat.reduceEqDiff, Fin.isValue, aTL, aSZ, Int.toNat_natCast, hset_same, hset_o, hset_s, hset_row, ne_eq, Nat.reduceBEq, beq_self_eq_true, Fin.val_zero, Fin.val_one, fin0, fin1, fin2, fin3, Nat.le_refl, Nat.reduceLeDiff, Nat.zero_le, Int.reduceAdd, Int.reduceNeg, Int.reduceLE, Int.reduceLT, Int.reduceToNat, Int.reduceMul, Int.cast_ofNat_Int, Nat.reduceMod, ↓reduceIte, if_true, if_false, and_true, true_and, or_true, true_or, false_or, or_false, and_self, not_true_eq_false, not_false_eq_true, Bool.false_eq_true, reduceCtorEq, false_implies, true_implies, implies_true, and_false, false_and, dX8_feed_0, dX8_feed_1, dX8_feed_2, dX8_feed_5, dX8_feed_8, dX8_feed_11, dX8_feed_13, dX8_feed_14, dX8_feed_15, dX8_feed_18, dX8_feed_21, dX8_feed_24, dX8_feed_26, dX8_feed_27, dX8_feed_28, dX8_feed_31, dX8_feed_32, dX8_feed_35, dX8_feed_36, dX8_feed_37, dX8_feed_38, dX8_feed_39, dX8_feed_42, dX8_feed_43, dX8_feed_44, dX8_feed_47, dX8_feed_48, dX8_feed_51, cpX8, mT_X8_feed, SHl_58, SHl_59, SHl_60, SHl_61, SHl_62, SHl_63, SHl_64, SHl_65, SHl_66, SHl_67, SHl_68, SHl_69, SHl_70, SHl_71, SHl_72, SHl_73, SHl_74, SHl_75, S_X8_in]
  (repeat' (first | apply And.intro | intro _)) <;> first | omega | exact hq | (rw [if_pos (by omega)] at hq; exact hq) | (rw [if_neg (by omega)] at hq; exact hq) | (repeat (first | rw [if_pos (by omega)] at hq | rw [if_neg (by omega)] at hq)) <;> exact hq | assumption | exact R32_of _
def S_X8_fault : MSpec := fun a σ Q => match a with
  | [.inr (.inl 58)] => Q (some (.inl (σ 58 7))) σ
  | _ => False
theorem rc_X8_fault : ∀ a σ Q, S_X8_fault a σ Q → ∃ (p : Nat) (r : List AV), a = .inr (.inl p) :: r ∧ p < 76 ∧ (SH p).1 = 4 ∧ (SH p).2.1 = 7 := by
  intro a σ Q h
  unfold S_X8_fault at h
  split at h
  · exact ⟨58, _, rfl, by decide, rfl, rfl⟩
  · exact h.elim
def mT_X8_fault (i : Nat) : Option (Nat × Bool × MSpec) := match i with
  | _ => none
theorem mT_X8_fault_ok {l : Launch} {n : Nat} (hn : 0 ≤ n) : ∀ i e, mT_X8_fault i = some e → mV l (rmOf n) RX8 i e := by
  intro i e h
  unfold mT_X8_fault at h
  split at h
  · cases h
set_option maxRecDepth 100000 in
set_option maxHeartbeats 4000000 in
theorem ok_X8_fault : ∀ l n, 0 ≤ n → ∀ a σ Q, S_X8_fault a σ Q → AM l n yX8_fault cX8_fault 1 (some .int) a σ Q := by
  intro l n hn a σ Q hS
  unfold S_X8_fault at hS
  split at hS
  rotate_left
  · exact hS.elim
  obtain hq := hS
  refine am_ofF 1 cpX8 mT_X8_fault (plainFor_of_name (by decide +kernel)) (rfl) (Nat.le_of_ble_eq_true rfl) (cpX8_ok) (mT_X8_fault_ok hn) (fun K hK => ?_)
  refine hK (fun _ => false) 200 _ _ _ _ ?_
  simp only [↓wp, ↓stp, ilen, lnth, st1, st2, nolong, nohead, rnth, ↓gfX, ↓pfX, gfV, pfV, cpF, cpP, cndZ, ↓tgo, ↓tsw, ↓lsw, ↓ldI, ↓ldA, ↓ldL, ↓stI, ↓stA, ↓stL, ↓bin, ↓binD, ↓binL, ↓binDL, ↓una, ↓acV, ↓acK, ↓acpy, ↓inv, entL, nones, List.length_cons, List.length_nil, List.take, List.drop, List.reverse_cons, List.reverse_nil, List.nil_append, List.cons_append, Option.toList_some, Option.toList_none, Nat.reduceAdd, Nat.reduceSub, Nat.reduceLT, Nat.reduceEqDiff, Fin.isValue, aTL, aSZ, Int.toNat_natCast, hset_same, hset_o, hset_s, hset_row, ne_eq, Nat.reduceBEq, beq_self_eq_true, Fin.val_zero, Fin.val_one, fin0, fin1, fin2, fin3, Nat.le_refl, Nat.reduceLeDiff, Nat.zero_le, Int.reduceAdd, Int.reduceNeg, Int.reduceLE, Int.reduceLT, Int.reduceToNat, Int.reduceMul, Int.cast_ofNat_Int, Nat.reduceMod, ↓reduceIte, if_true, if_false, and_true, true_and, or_true, true_or, false_or, or_false, and_self, not_true_eq_false, not_false_eq_true, Bool.false_eq_true, reduceCtorEq, false_implies, true_implies, implies_true, and_false, false_and, dX8_fault_0, dX8_fault_1, dX8_fault_4, cpX8, mT_X8_fault, SHl_58, SHl_59, SHl_60, SHl_61, SHl_62, SHl_63, SHl_64, SHl_65, SHl_66, SHl_67, SHl_68, SHl_69, SHl_70, SHl_71, SHl_72, SHl_73, SHl_74, SHl_75]
  exact hS
def S_X8_status : MSpec := fun a σ Q => match a with
  | [.inr (.inl 58)] => Q (some (.inl (σ 58 4))) σ
  | _ => False
theorem rc_X8_status : ∀ a σ Q, S_X8_status a σ Q → ∃ (p : Nat) (r : List AV), a = .inr (.inl p) :: r ∧ p < 76 ∧ (SH p).1 = 4 ∧ (SH p).2.1 = 7 := by
  intro a σ Q h
  unfold S_X8_status at h
  split at h
  · exact ⟨58, _, rfl, by decide, rfl, rfl⟩
  · exact h.elim
def mT_X8_status (i : Nat) : Option (Nat × Bool × MSpec) := match i with
  | _ => none
theorem mT_X8_status_ok {l : Launch} {n : Nat} (hn : 0 ≤ n) : ∀ i e, mT_X8_status i = some e → mV l (rmOf n) RX8 i e := by
  intro i e h
  unfold mT_X8_status at h
  split at h
  · cases h
set_option maxRecDepth 100000 in
set_option maxHeartbeats 4000000 in
theorem ok_X8_status : ∀ l n, 0 ≤ n → ∀ a σ Q, S_X8_status a σ Q → AM l n yX8_status cX8_status 1 (some .int) a σ Q := by
  intro l n hn a σ Q hS
  unfold S_X8_status at hS
  split at hS
  rotate_left
  · exact hS.elim
  obtain hq := hS
  refine am_ofF 1 cpX8 mT_X8_status (plainFor_of_name (by decide +kernel)) (rfl) (Nat.le_of_ble_eq_true rfl) (cpX8_ok) (mT_X8_status_ok hn) (fun K hK => ?_)
  refine hK (fun _ => false) 200 _ _ _ _ ?_
  simp only [↓wp, ↓stp, ilen, lnth, st1, st2, nolong, nohead, rnth, ↓gfX, ↓pfX, gfV, pfV, cpF, cpP, cndZ, ↓tgo, ↓tsw, ↓lsw, ↓ldI, ↓ldA, ↓ldL, ↓stI, ↓stA, ↓stL, ↓bin, ↓binD, ↓binL, ↓binDL, ↓una, ↓acV, ↓acK, ↓acpy, ↓inv, entL, nones, List.length_cons, List.length_nil, List.take, List.drop, List.reverse_cons, List.reverse_nil, List.nil_append, List.cons_append, Option.toList_some, Option.toList_none, Nat.reduceAdd, Nat.reduceSub, Nat.reduceLT, Nat.reduceEqDiff, Fin.isValue, aTL, aSZ, Int.toNat_natCast, hset_same, hset_o, hset_s, hset_row, ne_eq, Nat.reduceBEq, beq_self_eq_true, Fin.val_zero, Fin.val_one, fin0, fin1, fin2, fin3, Nat.le_refl, Nat.reduceLeDiff, Nat.zero_le, Int.reduceAdd, Int.reduceNeg, Int.reduceLE, Int.reduceLT, Int.reduceToNat, Int.reduceMul, Int.cast_ofNat_Int, Nat.reduceMod, ↓reduceIte, if_true, if_false, and_true, true_and, or_true, true_or, false_or, or_false, and_self, not_true_eq_false, not_false_eq_true, Bool.false_eq_true, reduceCtorEq, false_implies, true_implies, implies_true, and_false, false_and, dX8_status_0, dX8_status_1, dX8_status_4, cpX8, mT_X8_status, SHl_58, SHl_59, SHl_60, SHl_61, SHl_62, SHl_63, SHl_64, SHl_65, SHl_66, SHl_67, SHl_68, SHl_69, SHl_70, SHl_71, SHl_72, SHl_73, SHl_74, SHl_75]
  exact hS
def S_X8_isPiece : MSpec := fun a σ Q => match a with
  | [.inr (.inl 58)] => (0 ≤ σ 64 1 ∧ σ 64 1 ≤ 10) ∧ Q (some (.inl (if 0 < σ 64 1 then 1 else 0))) σ
  | _ => False
theorem rc_X8_isPiece : ∀ a σ Q, S_X8_isPiece a σ Q → ∃ (p : Nat) (r : List AV), a = .inr (.inl p) :: r ∧ p < 76 ∧ (SH p).1 = 4 ∧ (SH p).2.1 = 7 := by
  intro a σ Q h
  unfold S_X8_isPiece at h
  split at h
  · exact ⟨58, _, rfl, by decide, rfl, rfl⟩
  · exact h.elim
def mT_X8_isPiece (i : Nat) : Option (Nat × Bool × MSpec) := match i with
  | _ => none
theorem mT_X8_isPiece_ok {l : Launch} {n : Nat} (hn : 0 ≤ n) : ∀ i e, mT_X8_isPiece i = some e → mV l (rmOf n) RX8 i e := by
  intro i e h
  unfold mT_X8_isPiece at h
  split at h
  · cases h
set_option maxRecDepth 100000 in
set_option maxHeartbeats 4000000 in
theorem ok_X8_isPiece : ∀ l n, 0 ≤ n → ∀ a σ Q, S_X8_isPiece a σ Q → AM l n yX8_isPiece cX8_isPiece 1 (some .boolean) a σ Q := by
  intro l n hn a σ Q hS
  unfold S_X8_isPiece at hS
  split at hS
  rotate_left
  · exact hS.elim
  obtain ⟨h1, hq⟩ := hS
  refine am_ofF 2 cpX8 mT_X8_isPiece (plainFor_of_name (by decide +kernel)) (rfl) (Nat.le_of_ble_eq_true rfl) (cpX8_ok) (mT_X8_isPiece_ok hn) (fun K hK => ?_)
  refine hK (fun _ => false) 200 _ _ _ _ ?_
  simp only [↓wp, ↓stp, ilen, lnth, st1, st2, nolong, nohead, rnth, ↓gfX, ↓pfX, gfV, pfV, cpF, cpP, cndZ, ↓tgo, ↓tsw, ↓lsw, ↓ldI, ↓ldA, ↓ldL, ↓stI, ↓stA, ↓stL, ↓bin, ↓binD, ↓binL, ↓binDL, ↓una, ↓acV, ↓acK, ↓acpy, ↓inv, entL, nones, List.length_cons, List.length_nil, List.take, List.drop, List.reverse_cons, List.reverse_nil, List.nil_append, List.cons_append, Option.toList_some, Option.toList_none, Nat.reduceAdd, Nat.reduceSub, Nat.reduceLT, Nat.reduceEqDiff, Fin.isValue, aTL, aSZ, Int.toNat_natCast, hset_same, hset_o, hset_s, hset_row, ne_eq, Nat.reduceBEq, beq_self_eq_true, Fin.val_zero, Fin.val_one, fin0, fin1, fin2, fin3, Nat.le_refl, Nat.reduceLeDiff, Nat.zero_le, Int.reduceAdd, Int.reduceNeg, Int.reduceLE, Int.reduceLT, Int.reduceToNat, Int.reduceMul, Int.cast_ofNat_Int, Nat.reduceMod, ↓reduceIte, if_true, if_false, and_true, true_and, or_true, true_or, false_or, or_false, and_self, not_true_eq_false, not_false_eq_true, Bool.false_eq_true, reduceCtorEq, false_implies, true_implies, implies_true, and_false, false_and, dX8_isPiece_0, dX8_isPiece_1, dX8_isPiece_4, dX8_isPiece_5, dX8_isPiece_6, dX8_isPiece_9, dX8_isPiece_10, dX8_isPiece_13, dX8_isPiece_14, cpX8, mT_X8_isPiece, SHl_58, SHl_59, SHl_60, SHl_61, SHl_62, SHl_63, SHl_64, SHl_65, SHl_66, SHl_67, SHl_68, SHl_69, SHl_70, SHl_71, SHl_72, SHl_73, SHl_74, SHl_75]
  (repeat' (first | apply And.intro | intro _)) <;> first | omega | exact hq | (rw [if_pos (by omega)] at hq; exact hq) | (rw [if_neg (by omega)] at hq; exact hq) | (repeat (first | rw [if_pos (by omega)] at hq | rw [if_neg (by omega)] at hq)) <;> exact hq | assumption | exact R32_of _
def S_X8_isChord : MSpec := fun a σ Q => match a with
  | [.inr (.inl 58), .inl c] => R32 c ∧ (0 ≤ σ 64 1 ∧ σ 64 1 ≤ 10) ∧ Q (some (.inl (if 0 ≤ c ∧ c ≤ σ 64 1 - 1 then 1 else 0))) σ
  | _ => False
theorem rc_X8_isChord : ∀ a σ Q, S_X8_isChord a σ Q → ∃ (p : Nat) (r : List AV), a = .inr (.inl p) :: r ∧ p < 76 ∧ (SH p).1 = 4 ∧ (SH p).2.1 = 7 := by
  intro a σ Q h
  unfold S_X8_isChord at h
  split at h
  · exact ⟨58, _, rfl, by decide, rfl, rfl⟩
  · exact h.elim
def mT_X8_isChord (i : Nat) : Option (Nat × Bool × MSpec) := match i with
  | 68 => some (3, false, S_X8_in)
  | _ => none
theorem mT_X8_isChord_ok {l : Launch} {n : Nat} (hn : 1 ≤ n) : ∀ i e, mT_X8_isChord i = some e → mV l (rmOf n) RX8 i e := by
  intro i e h
  unfold mT_X8_isChord at h
  split at h
  · cases h; exact mvS (lv := 0) mw_X8_in (by omega) (by decide) (by decide +kernel) (Or.inl (gtm 831 (by decide +kernel) (by decide +kernel))) ok_X8_in
  · cases h
set_option maxRecDepth 100000 in
set_option maxHeartbeats 4000000 in
theorem ok_X8_isChord : ∀ l n, 1 ≤ n → ∀ a σ Q, S_X8_isChord a σ Q → AM l n yX8_isChord cX8_isChord 2 (some .boolean) a σ Q := by
  intro l n hn a σ Q hS
  unfold S_X8_isChord at hS
  split at hS
  rotate_left
  · exact hS.elim
  rename_i c
  obtain ⟨⟨c1, c2⟩, h1, hq⟩ := hS
  refine am_ofF 2 cpX8 mT_X8_isChord (plainFor_of_name (by decide +kernel)) (rfl) (Nat.le_of_ble_eq_true rfl) (cpX8_ok) (mT_X8_isChord_ok hn) (fun K hK => ?_)
  refine hK (fun _ => false) 200 _ _ _ _ ?_
  simp only [↓wp, ↓stp, ilen, lnth, st1, st2, nolong, nohead, rnth, ↓gfX, ↓pfX, gfV, pfV, cpF, cpP, cndZ, ↓tgo, ↓tsw, ↓lsw, ↓ldI, ↓ldA, ↓ldL, ↓stI, ↓stA, ↓stL, ↓bin, ↓binD, ↓binL, ↓binDL, ↓una, ↓acV, ↓acK, ↓acpy, ↓inv, entL, nones, List.length_cons, List.length_nil, List.take, List.drop, List.reverse_cons, List.reverse_nil, List.nil_append, List.cons_append, Option.toList_some, Option.toList_none, Nat.reduceAdd, Nat.reduceSub, Nat.reduceLT, Nat.reduceEqDiff, Fin.isValue, aTL, aSZ, Int.toNat_natCast, hset_same, hset_o, hset_s, hset_row, ne_eq, Nat.reduceBEq, beq_self_eq_true, Fin.val_zero, Fin.val_one, fin0, fin1, fin2, fin3, Nat.le_refl, Nat.reduceLeDiff, Nat.zero_le, Int.reduceAdd, Int.reduceNeg, Int.reduceLE, Int.reduceLT, Int.reduceToNat, Int.reduceMul, Int.cast_ofNat_Int, Nat.reduceMod, ↓reduceIte, if_true, if_false, and_true, true_and, or_true, true_or, false_or, or_false, and_self, not_true_eq_false, not_false_eq_true, Bool.false_eq_true, reduceCtorEq, false_implies, true_implies, implies_true, and_false, false_and, dX8_isChord_0, dX8_isChord_1, dX8_isChord_2, dX8_isChord_3, dX8_isChord_6, dX8_isChord_7, dX8_isChord_8, dX8_isChord_9, dX8_isChord_10, dX8_isChord_13, cpX8, mT_X8_isChord, SHl_58, SHl_59, SHl_60, SHl_61, SHl_62, SHl_63, SHl_64, SHl_65, SHl_66, SHl_67, SHl_68, SHl_69, SHl_70, SHl_71, SHl_72, SHl_73, SHl_74, SHl_75, S_X8_in]
  (repeat' (first | apply And.intro | intro _)) <;> first | omega | exact hq | (rw [if_pos (by omega)] at hq; exact hq) | (rw [if_neg (by omega)] at hq; exact hq) | (repeat (first | rw [if_pos (by omega)] at hq | rw [if_neg (by omega)] at hq)) <;> exact hq | assumption | exact R32_of _
def S_X8_isNote : MSpec := fun a σ Q => match a with
  | [.inr (.inl 58), .inl c] => R32 c ∧ (0 ≤ σ 64 2 ∧ σ 64 2 ≤ 40) ∧ Q (some (.inl (if 0 ≤ c ∧ c ≤ σ 64 2 - 1 then 1 else 0))) σ
  | _ => False
theorem rc_X8_isNote : ∀ a σ Q, S_X8_isNote a σ Q → ∃ (p : Nat) (r : List AV), a = .inr (.inl p) :: r ∧ p < 76 ∧ (SH p).1 = 4 ∧ (SH p).2.1 = 7 := by
  intro a σ Q h
  unfold S_X8_isNote at h
  split at h
  · exact ⟨58, _, rfl, by decide, rfl, rfl⟩
  · exact h.elim
def mT_X8_isNote (i : Nat) : Option (Nat × Bool × MSpec) := match i with
  | 68 => some (3, false, S_X8_in)
  | _ => none
theorem mT_X8_isNote_ok {l : Launch} {n : Nat} (hn : 1 ≤ n) : ∀ i e, mT_X8_isNote i = some e → mV l (rmOf n) RX8 i e := by
  intro i e h
  unfold mT_X8_isNote at h
  split at h
  · cases h; exact mvS (lv := 0) mw_X8_in (by omega) (by decide) (by decide +kernel) (Or.inl (gtm 831 (by decide +kernel) (by decide +kernel))) ok_X8_in
  · cases h
set_option maxRecDepth 100000 in
set_option maxHeartbeats 4000000 in
theorem ok_X8_isNote : ∀ l n, 1 ≤ n → ∀ a σ Q, S_X8_isNote a σ Q → AM l n yX8_isNote cX8_isNote 2 (some .boolean) a σ Q := by
  intro l n hn a σ Q hS
  unfold S_X8_isNote at hS
  split at hS
  rotate_left
  · exact hS.elim
  rename_i c
  obtain ⟨⟨c1, c2⟩, h1, hq⟩ := hS
  refine am_ofF 2 cpX8 mT_X8_isNote (plainFor_of_name (by decide +kernel)) (rfl) (Nat.le_of_ble_eq_true rfl) (cpX8_ok) (mT_X8_isNote_ok hn) (fun K hK => ?_)
  refine hK (fun _ => false) 200 _ _ _ _ ?_
  simp only [↓wp, ↓stp, ilen, lnth, st1, st2, nolong, nohead, rnth, ↓gfX, ↓pfX, gfV, pfV, cpF, cpP, cndZ, ↓tgo, ↓tsw, ↓lsw, ↓ldI, ↓ldA, ↓ldL, ↓stI, ↓stA, ↓stL, ↓bin, ↓binD, ↓binL, ↓binDL, ↓una, ↓acV, ↓acK, ↓acpy, ↓inv, entL, nones, List.length_cons, List.length_nil, List.take, List.drop, List.reverse_cons, List.reverse_nil, List.nil_append, List.cons_append, Option.toList_some, Option.toList_none, Nat.reduceAdd, Nat.reduceSub, Nat.reduceLT, Nat.reduceEqDiff, Fin.isValue, aTL, aSZ, Int.toNat_natCast, hset_same, hset_o, hset_s, hset_row, ne_eq, Nat.reduceBEq, beq_self_eq_true, Fin.val_zero, Fin.val_one, fin0, fin1, fin2, fin3, Nat.le_refl, Nat.reduceLeDiff, Nat.zero_le, Int.reduceAdd, Int.reduceNeg, Int.reduceLE, Int.reduceLT, Int.reduceToNat, Int.reduceMul, Int.cast_ofNat_Int, Nat.reduceMod, ↓reduceIte, if_true, if_false, and_true, true_and, or_true, true_or, false_or, or_false, and_self, not_true_eq_false, not_false_eq_true, Bool.false_eq_true, reduceCtorEq, false_implies, true_implies, implies_true, and_false, false_and, dX8_isNote_0, dX8_isNote_1, dX8_isNote_2, dX8_isNote_3, dX8_isNote_6, dX8_isNote_7, dX8_isNote_8, dX8_isNote_9, dX8_isNote_10, dX8_isNote_13, cpX8, mT_X8_isNote, SHl_58, SHl_59, SHl_60, SHl_61, SHl_62, SHl_63, SHl_64, SHl_65, SHl_66, SHl_67, SHl_68, SHl_69, SHl_70, SHl_71, SHl_72, SHl_73, SHl_74, SHl_75, S_X8_in]
  (repeat' (first | apply And.intro | intro _)) <;> first | omega | exact hq | (rw [if_pos (by omega)] at hq; exact hq) | (rw [if_neg (by omega)] at hq; exact hq) | (repeat (first | rw [if_pos (by omega)] at hq | rw [if_neg (by omega)] at hq)) <;> exact hq | assumption | exact R32_of _
def S_X8_isWindow : MSpec := fun a σ Q => match a with
  | [.inl v] => R32 v ∧ Q (some (.inl (if -15 ≤ v ∧ v ≤ 8 then 1 else 0))) σ
  | _ => False
def mT_X8_isWindow (i : Nat) : Option (Nat × Bool × MSpec) := match i with
  | 68 => some (3, false, S_X8_in)
  | _ => none
theorem mT_X8_isWindow_ok {l : Launch} {n : Nat} (hn : 1 ≤ n) : ∀ i e, mT_X8_isWindow i = some e → mV l (rmOf n) RX8 i e := by
  intro i e h
  unfold mT_X8_isWindow at h
  split at h
  · cases h; exact mvS (lv := 0) mw_X8_in (by omega) (by decide) (by decide +kernel) (Or.inl (gtm 831 (by decide +kernel) (by decide +kernel))) ok_X8_in
  · cases h
set_option maxRecDepth 100000 in
set_option maxHeartbeats 4000000 in
theorem ok_X8_isWindow : ∀ l n, 1 ≤ n → ∀ a σ Q, S_X8_isWindow a σ Q → AM l n yX8_isWindow cX8_isWindow 1 (some .boolean) a σ Q := by
  intro l n hn a σ Q hS
  unfold S_X8_isWindow at hS
  split at hS
  rotate_left
  · exact hS.elim
  rename_i c
  obtain ⟨⟨c1, c2⟩, hq⟩ := hS
  refine am_ofF 2 cpX8 mT_X8_isWindow (plainFor_of_name (by decide +kernel)) (rfl) (Nat.le_of_ble_eq_true rfl) (cpX8_ok) (mT_X8_isWindow_ok hn) (fun K hK => ?_)
  refine hK (fun _ => false) 200 _ _ _ _ ?_
  simp only [↓wp, ↓stp, ilen, lnth, st1, st2, nolong, nohead, rnth, ↓gfX, ↓pfX, gfV, pfV, cpF, cpP, cndZ, ↓tgo, ↓tsw, ↓lsw, ↓ldI, ↓ldA, ↓ldL, ↓stI, ↓stA, ↓stL, ↓bin, ↓binD, ↓binL, ↓binDL, ↓una, ↓acV, ↓acK, ↓acpy, ↓inv, entL, nones, List.length_cons, List.length_nil, List.take, List.drop, List.reverse_cons, List.reverse_nil, List.nil_append, List.cons_append, Option.toList_some, Option.toList_none, Nat.reduceAdd, Nat.reduceSub, Nat.reduceLT, Nat.reduceEqDiff, Fin.isValue, aTL, aSZ, Int.toNat_natCast, hset_same, hset_o, hset_s, hset_row, ne_eq, Nat.reduceBEq, beq_self_eq_true, Fin.val_zero, Fin.val_one, fin0, fin1, fin2, fin3, Nat.le_refl, Nat.reduceLeDiff, Nat.zero_le, Int.reduceAdd, Int.reduceNeg, Int.reduceLE, Int.reduceLT, Int.reduceToNat, Int.reduceMul, Int.cast_ofNat_Int, Nat.reduceMod, ↓reduceIte, if_true, if_false, and_true, true_and, or_true, true_or, false_or, or_false, and_self, not_true_eq_false, not_false_eq_true, Bool.false_eq_true, reduceCtorEq, false_implies, true_implies, implies_true, and_false, false_and, dX8_isWindow_0, dX8_isWindow_1, dX8_isWindow_3, dX8_isWindow_5, dX8_isWindow_8, cpX8, mT_X8_isWindow, SHl_58, SHl_59, SHl_60, SHl_61, SHl_62, SHl_63, SHl_64, SHl_65, SHl_66, SHl_67, SHl_68, SHl_69, SHl_70, SHl_71, SHl_72, SHl_73, SHl_74, SHl_75, S_X8_in]
  (repeat' (first | apply And.intro | intro _)) <;> first | omega | exact hq | (rw [if_pos (by omega)] at hq; exact hq) | (rw [if_neg (by omega)] at hq; exact hq) | (repeat (first | rw [if_pos (by omega)] at hq | rw [if_neg (by omega)] at hq)) <;> exact hq | assumption | exact R32_of _
def S_X8_trace : MSpec := fun a σ Q => match a with
  | [.inr (.inl 58), .inl i] => R32 i ∧ (0 ≤ σ 58 27 ∧ σ 58 27 ≤ 16) ∧ Q (some (.inl (if 0 ≤ i ∧ i ≤ σ 58 27 - 1 then σ 75 i.toNat else -1000000))) σ
  | _ => False
theorem rc_X8_trace : ∀ a σ Q, S_X8_trace a σ Q → ∃ (p : Nat) (r : List AV), a = .inr (.inl p) :: r ∧ p < 76 ∧ (SH p).1 = 4 ∧ (SH p).2.1 = 7 := by
  intro a σ Q h
  unfold S_X8_trace at h
  split at h
  · exact ⟨58, _, rfl, by decide, rfl, rfl⟩
  · exact h.elim
def mT_X8_trace (i : Nat) : Option (Nat × Bool × MSpec) := match i with
  | 68 => some (3, false, S_X8_in)
  | _ => none
theorem mT_X8_trace_ok {l : Launch} {n : Nat} (hn : 1 ≤ n) : ∀ i e, mT_X8_trace i = some e → mV l (rmOf n) RX8 i e := by
  intro i e h
  unfold mT_X8_trace at h
  split at h
  · cases h; exact mvS (lv := 0) mw_X8_in (by omega) (by decide) (by decide +kernel) (Or.inl (gtm 831 (by decide +kernel) (by decide +kernel))) ok_X8_in
  · cases h
set_option maxRecDepth 100000 in
set_option maxHeartbeats 4000000 in
theorem ok_X8_trace : ∀ l n, 1 ≤ n → ∀ a σ Q, S_X8_trace a σ Q → AM l n yX8_trace cX8_trace 2 (some .int) a σ Q := by
  intro l n hn a σ Q hS
  unfold S_X8_trace at hS
  split at hS
  rotate_left
  · exact hS.elim
  rename_i c
  obtain ⟨⟨c1, c2⟩, h1, hq⟩ := hS
  refine am_ofF 1 cpX8 mT_X8_trace (plainFor_of_name (by decide +kernel)) (rfl) (Nat.le_of_ble_eq_true rfl) (cpX8_ok) (mT_X8_trace_ok hn) (fun K hK => ?_)
  refine hK (fun _ => false) 200 _ _ _ _ ?_
  simp only [↓wp, ↓stp, ilen, lnth, st1, st2, nolong, nohead, rnth, ↓gfX, ↓pfX, gfV, pfV, cpF, cpP, cndZ, ↓tgo, ↓tsw, ↓lsw, ↓ldI, ↓ldA, ↓ldL, ↓stI, ↓stA, ↓stL, ↓bin, ↓binD, ↓binL, ↓binDL, ↓una, ↓acV, ↓acK, ↓acpy, ↓inv, entL, nones, List.length_cons, List.length_nil, List.take, List.drop, List.reverse_cons, List.reverse_nil, List.nil_append, List.cons_append, Option.toList_some, Option.toList_none, Nat.reduceAdd, Nat.reduceSub, Nat.reduceLT, Nat.reduceEqDiff, Fin.isValue, aTL, aSZ, Int.toNat_natCast, hset_same, hset_o, hset_s, hset_row, ne_eq, Nat.reduceBEq, beq_self_eq_true, Fin.val_zero, Fin.val_one, fin0, fin1, fin2, fin3, Nat.le_refl, Nat.reduceLeDiff, Nat.zero_le, Int.reduceAdd, Int.reduceNeg, Int.reduceLE, Int.reduceLT, Int.reduceToNat, Int.reduceMul, Int.cast_ofNat_Int, Nat.reduceMod, ↓reduceIte, if_true, if_false, and_true, true_and, or_true, true_or, false_or, or_false, and_self, not_true_eq_false, not_false_eq_true, Bool.false_eq_true, reduceCtorEq, false_implies, true_implies, implies_true, and_false, false_and, dX8_trace_0, dX8_trace_1, dX8_trace_2, dX8_trace_3, dX8_trace_6, dX8_trace_7, dX8_trace_8, dX8_trace_11, dX8_trace_14, dX8_trace_15, dX8_trace_18, dX8_trace_19, dX8_trace_20, dX8_trace_23, dX8_trace_25, cpX8, mT_X8_trace, SHl_58, SHl_59, SHl_60, SHl_61, SHl_62, SHl_63, SHl_64, SHl_65, SHl_66, SHl_67, SHl_68, SHl_69, SHl_70, SHl_71, SHl_72, SHl_73, SHl_74, SHl_75, S_X8_in]
  (repeat' (first | apply And.intro | intro _)) <;> first | omega | exact hq | (rw [if_pos (by omega)] at hq; exact hq) | (rw [if_neg (by omega)] at hq; exact hq) | (repeat (first | rw [if_pos (by omega)] at hq | rw [if_neg (by omega)] at hq)) <;> exact hq | assumption | exact R32_of _
def S_X8_kindIn : MSpec := fun a σ Q => match a with
  | [.inr (.inl 58), .inl c] => (0 ≤ c ∧ c < 10) ∧ Q (some (.inl (σ 64 (3 + 5 * c).toNat))) σ
  | _ => False
theorem rc_X8_kindIn : ∀ a σ Q, S_X8_kindIn a σ Q → ∃ (p : Nat) (r : List AV), a = .inr (.inl p) :: r ∧ p < 76 ∧ (SH p).1 = 4 ∧ (SH p).2.1 = 7 := by
  intro a σ Q h
  unfold S_X8_kindIn at h
  split at h
  · exact ⟨58, _, rfl, by decide, rfl, rfl⟩
  · exact h.elim
def mT_X8_kindIn (i : Nat) : Option (Nat × Bool × MSpec) := match i with
  | _ => none
theorem mT_X8_kindIn_ok {l : Launch} {n : Nat} (hn : 0 ≤ n) : ∀ i e, mT_X8_kindIn i = some e → mV l (rmOf n) RX8 i e := by
  intro i e h
  unfold mT_X8_kindIn at h
  split at h
  · cases h
set_option maxRecDepth 100000 in
set_option maxHeartbeats 4000000 in
theorem ok_X8_kindIn : ∀ l n, 0 ≤ n → ∀ a σ Q, S_X8_kindIn a σ Q → AM l n yX8_kindIn cX8_kindIn 2 (some .int) a σ Q := by
  intro l n hn a σ Q hS
  unfold S_X8_kindIn at hS
  split at hS
  rotate_left
  · exact hS.elim
  rename_i c
  obtain ⟨c1, hq⟩ := hS
  refine am_ofF 1 cpX8 mT_X8_kindIn (plainFor_of_name (by decide +kernel)) (rfl) (Nat.le_of_ble_eq_true rfl) (cpX8_ok) (mT_X8_kindIn_ok hn) (fun K hK => ?_)
  refine hK (fun _ => false) 200 _ _ _ _ ?_
  simp only [↓wp, ↓stp, ilen, lnth, st1, st2, nolong, nohead, rnth, ↓gfX, ↓pfX, gfV, pfV, cpF, cpP, cndZ, ↓tgo, ↓tsw, ↓lsw, ↓ldI, ↓ldA, ↓ldL, ↓stI, ↓stA, ↓stL, ↓bin, ↓binD, ↓binL, ↓binDL, ↓una, ↓acV, ↓acK, ↓acpy, ↓inv, entL, nones, List.length_cons, List.length_nil, List.take, List.drop, List.reverse_cons, List.reverse_nil, List.nil_append, List.cons_append, Option.toList_some, Option.toList_none, Nat.reduceAdd, Nat.reduceSub, Nat.reduceLT, Nat.reduceEqDiff, Fin.isValue, aTL, aSZ, Int.toNat_natCast, hset_same, hset_o, hset_s, hset_row, ne_eq, Nat.reduceBEq, beq_self_eq_true, Fin.val_zero, Fin.val_one, fin0, fin1, fin2, fin3, Nat.le_refl, Nat.reduceLeDiff, Nat.zero_le, Int.reduceAdd, Int.reduceNeg, Int.reduceLE, Int.reduceLT, Int.reduceToNat, Int.reduceMul, Int.cast_ofNat_Int, Nat.reduceMod, ↓reduceIte, if_true, if_false, and_true, true_and, or_true, true_or, false_or, or_false, and_self, not_true_eq_false, not_false_eq_true, Bool.false_eq_true, reduceCtorEq, false_implies, true_implies, implies_true, and_false, false_and, dX8_kindIn_0, dX8_kindIn_1, dX8_kindIn_4, dX8_kindIn_5, dX8_kindIn_6, dX8_kindIn_7, dX8_kindIn_8, dX8_kindIn_9, dX8_kindIn_10, cpX8, mT_X8_kindIn, SHl_58, SHl_59, SHl_60, SHl_61, SHl_62, SHl_63, SHl_64, SHl_65, SHl_66, SHl_67, SHl_68, SHl_69, SHl_70, SHl_71, SHl_72, SHl_73, SHl_74, SHl_75]
  (repeat' (first | apply And.intro | intro _)) <;> first | omega | exact hq | (rw [if_pos (by omega)] at hq; exact hq) | (rw [if_neg (by omega)] at hq; exact hq) | (repeat (first | rw [if_pos (by omega)] at hq | rw [if_neg (by omega)] at hq)) <;> exact hq | assumption | exact R32_of _
def S_X8_kind : MSpec := fun a σ Q => match a with
  | [.inr (.inl 58), .inl c] => R32 c ∧ (0 ≤ σ 64 1 ∧ σ 64 1 ≤ 10) ∧ Q (some (.inl (if 0 ≤ c ∧ c ≤ σ 64 1 - 1 then σ 64 (3 + 5 * c).toNat else -1000001))) σ
  | _ => False
theorem rc_X8_kind : ∀ a σ Q, S_X8_kind a σ Q → ∃ (p : Nat) (r : List AV), a = .inr (.inl p) :: r ∧ p < 76 ∧ (SH p).1 = 4 ∧ (SH p).2.1 = 7 := by
  intro a σ Q h
  unfold S_X8_kind at h
  split at h
  · exact ⟨58, _, rfl, by decide, rfl, rfl⟩
  · exact h.elim
def mT_X8_kind (i : Nat) : Option (Nat × Bool × MSpec) := match i with
  | 212 => some (2, true, S_X8_isChord)
  | 260 => some (2, true, S_X8_kindIn)
  | _ => none
theorem mT_X8_kind_ok {l : Launch} {n : Nat} (hn : 2 ≤ n) : ∀ i e, mT_X8_kind i = some e → mV l (rmOf n) RX8 i e := by
  intro i e h
  unfold mT_X8_kind at h
  split at h
  · cases h; exact mvI (lv := 1) (ci := 7) (T := TX8) (N := 28) mw_X8_isChord rfl (by omega) (by decide) (by decide +kernel) (gtm 936 (by decide +kernel) (by decide +kernel)) rc_X8_isChord ok_X8_isChord
  · cases h; exact mvI (lv := 0) (ci := 7) (T := TX8) (N := 28) mw_X8_kindIn rfl (by omega) (by decide) (by decide +kernel) (gtm 1097 (by decide +kernel) (by decide +kernel)) rc_X8_kindIn ok_X8_kindIn
  · cases h
set_option maxRecDepth 100000 in
set_option maxHeartbeats 4000000 in
theorem ok_X8_kind : ∀ l n, 2 ≤ n → ∀ a σ Q, S_X8_kind a σ Q → AM l n yX8_kind cX8_kind 2 (some .int) a σ Q := by
  intro l n hn a σ Q hS
  unfold S_X8_kind at hS
  split at hS
  rotate_left
  · exact hS.elim
  rename_i c
  obtain ⟨⟨c1, c2⟩, h1, hq⟩ := hS
  refine am_ofF 1 cpX8 mT_X8_kind (plainFor_of_name (by decide +kernel)) (rfl) (Nat.le_of_ble_eq_true rfl) (cpX8_ok) (mT_X8_kind_ok hn) (fun K hK => ?_)
  refine hK (fun _ => false) 200 _ _ _ _ ?_
  simp only [↓wp, ↓stp, ilen, lnth, st1, st2, nolong, nohead, rnth, ↓gfX, ↓pfX, gfV, pfV, cpF, cpP, cndZ, ↓tgo, ↓tsw, ↓lsw, ↓ldI, ↓ldA, ↓ldL, ↓stI, ↓stA, ↓stL, ↓bin, ↓binD, ↓binL, ↓binDL, ↓una, ↓acV, ↓acK, ↓acpy, ↓inv, entL, nones, List.length_cons, List.length_nil, List.take, List.drop, List.reverse_cons, List.reverse_nil, List.nil_append, List.cons_append, Option.toList_some, Option.toList_none, Nat.reduceAdd, Nat.reduceSub, Nat.reduceLT, Nat.reduceEqDiff, Fin.isValue, aTL, aSZ, Int.toNat_natCast, hset_same, hset_o, hset_s, hset_row, ne_eq, Nat.reduceBEq, beq_self_eq_true, Fin.val_zero, Fin.val_one, fin0, fin1, fin2, fin3, Nat.le_refl, Nat.reduceLeDiff, Nat.zero_le, Int.reduceAdd, Int.reduceNeg, Int.reduceLE, Int.reduceLT, Int.reduceToNat, Int.reduceMul, Int.cast_ofNat_Int, Nat.reduceMod, ↓reduceIte, if_true, if_false, and_true, true_and, or_true, true_or, false_or, or_false, and_self, not_true_eq_false, not_false_eq_true, Bool.false_eq_true, reduceCtorEq, false_implies, true_implies, implies_true, and_false, false_and, dX8_kind_0, dX8_kind_1, dX8_kind_2, dX8_kind_5, dX8_kind_8, dX8_kind_9, dX8_kind_10, dX8_kind_13, dX8_kind_16, dX8_kind_18, cpX8, mT_X8_kind, SHl_58, SHl_59, SHl_60, SHl_61, SHl_62, SHl_63, SHl_64, SHl_65, SHl_66, SHl_67, SHl_68, SHl_69, SHl_70, SHl_71, SHl_72, SHl_73, SHl_74, SHl_75, S_X8_isChord, S_X8_kindIn]
  (repeat' (first | apply And.intro | intro _)) <;> first | omega | exact hq | (rw [if_pos (by omega)] at hq; exact hq) | (rw [if_neg (by omega)] at hq; exact hq) | (repeat (first | rw [if_pos (by omega)] at hq | rw [if_neg (by omega)] at hq)) <;> exact hq | assumption | exact R32_of _
