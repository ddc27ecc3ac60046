/-! ===== Rows ===== -/
def hfill (σ : HP) (p a n : Nat) : HP := fun q j => if q = p ∧ a ≤ j ∧ j < a + n then 0 else σ q j
theorem hfill_0 (σ : HP) (p a : Nat) : hfill σ p a 0 = σ := by
  funext q j
  unfold hfill
  rw [if_neg (by omega)]
theorem hfill_step (σ : HP) (p a i : Nat) : hset (hfill σ p a i) p (a + i) 0 = hfill σ p a (i + 1) := by
  funext q j
  unfold hset hfill
  by_cases h : q = p ∧ j = a + i
  · rw [if_pos h, if_pos ⟨h.1, by omega, by omega⟩]
  · rw [if_neg h]
    by_cases h2 : q = p ∧ a ≤ j ∧ j < a + i
    · rw [if_pos h2, if_pos ⟨h2.1, by omega, by omega⟩]
    · rw [if_neg h2, if_neg (fun z => h2 ⟨z.1, z.2.1, by
        have : ¬ j = a + i := fun w => h ⟨z.1, w⟩
        omega⟩)]
/-- how many below n are not -1 in f -/
def howM (f : Nat → Int) : Nat → Int
  | 0 => 0
  | n + 1 => howM f n + (if f n = -1 then 0 else 1)
def S_X5_isRow : MSpec := fun a σ Q => match a with
  | [.inl r] => R32 r ∧ Q (some (.inl (if 0 ≤ r ∧ r < 8 then 1 else 0))) σ
  | _ => False
def mT_X5_isRow (i : Nat) : Option (Nat × Bool × MSpec) := match i with
  | _ => none
theorem mT_X5_isRow_ok {l : Launch} {n : Nat} (hn : 0 ≤ n) : ∀ i e, mT_X5_isRow i = some e → mV l (rmOf n) RX5 i e := by
  intro i e h
  unfold mT_X5_isRow at h
  split at h
  · cases h
set_option maxRecDepth 100000 in
set_option maxHeartbeats 4000000 in
theorem ok_X5_isRow : ∀ l n, 0 ≤ n → ∀ a σ Q, S_X5_isRow a σ Q → AM l n yX5_isRow cX5_isRow 1 (some .boolean) a σ Q := by
  intro l n hn a σ Q hS
  unfold S_X5_isRow at hS
  split at hS
  rotate_left
  · exact hS.elim
  rename_i r
  obtain ⟨r1, hq⟩ := hS
  refine am_ofF 2 cpX5 mT_X5_isRow (plainFor_of_name (by decide +kernel)) (rfl) (Nat.le_of_ble_eq_true rfl) (cpX5_ok) (mT_X5_isRow_ok hn) (fun K hK => ?_)
  refine hK (fun _ => false) 200 _ _ _ _ ?_
  simp only [↓wp, ↓stp, ilen, lnth, st1, st2, nolong, nohead, rnth, ↓gfX, ↓pfX, gfV, pfV, cpF, cpP, cndZ, ↓tgo, ↓tsw, ↓lsw, ↓ldI, ↓ldA, ↓ldL, ↓stI, ↓stA, ↓stL, ↓bin, ↓binD, ↓binL, ↓binDL, ↓una, ↓acV, ↓acK, ↓acpy, ↓inv, entL, nones, List.length_cons, List.length_nil, List.take, List.drop, List.reverse_cons, List.reverse_nil, List.nil_append, List.cons_append, Option.toList_some, Option.toList_none, Nat.reduceAdd, Nat.reduceSub, Nat.reduceLT, Nat.reduceEqDiff, Fin.isValue, aTL, aSZ, Int.toNat_natCast, hset_same, hset_o, hset_s, hset_row, ne_eq, Nat.reduceBEq, beq_self_eq_true, Fin.val_zero, Fin.val_one, fin0, fin1, fin2, fin3, Nat.le_refl, Nat.reduceLeDiff, Nat.zero_le, Int.reduceAdd, Int.reduceNeg, Int.reduceLE, Int.reduceLT, Int.reduceToNat, Int.reduceMul, Int.cast_ofNat_Int, Nat.reduceMod, ↓reduceIte, if_true, if_false, and_true, true_and, or_true, true_or, false_or, or_false, and_self, not_true_eq_false, not_false_eq_true, Bool.false_eq_true, reduceCtorEq, false_implies, true_implies, implies_true, and_false, false_and, dX5_isRow_0, dX5_isRow_1, dX5_isRow_4, dX5_isRow_5, dX5_isRow_7, dX5_isRow_10, dX5_isRow_11, dX5_isRow_14, dX5_isRow_15, cpX5, mT_X5_isRow, SHl_0, SHl_1, SHl_2, SHl_3, SHl_4, SHl_5, SHl_6, SHl_7, SHl_8, SHl_9, SHl_10, SHl_11, SHl_12, SHl_13, SHl_14, SHl_15, SHl_16, SHl_17, SHl_18, SHl_19, SHl_20, SHl_21, SHl_22, SHl_23, SHl_24, SHl_25, SHl_26, SHl_27, SHl_28, SHl_29, SHl_30, SHl_31, SHl_32, SHl_33, SHl_34, SHl_35, SHl_36, SHl_37, SHl_38, SHl_39, SHl_40, SHl_41, SHl_42, SHl_43, SHl_44, SHl_45, SHl_46, SHl_47, SHl_48, SHl_49, SHl_50, SHl_51, SHl_52, SHl_53, SHl_54, SHl_55, SHl_56, SHl_57]
  obtain ⟨b1, b2⟩ := r1
  (repeat' (first | apply And.intro | intro _)) <;> first | omega | exact hq | (rw [if_pos (by omega)] at hq; exact hq) | (rw [if_neg (by omega)] at hq; exact hq) | (repeat (first | rw [if_pos (by omega)] at hq | rw [if_neg (by omega)] at hq)) <;> exact hq | assumption | exact R32_of _
def S_X5_isMissing : MSpec := fun a σ Q => match a with
  | [.inr (.inl 1), .inl r] => (0 ≤ r ∧ r < 8) ∧ (-1 ≤ σ 4 r.toNat ∧ σ 4 r.toNat ≤ 40) ∧ Q (some (.inl (if σ 4 r.toNat = -1 then 1 else 0))) σ
  | _ => False
theorem rc_X5_isMissing : ∀ a σ Q, S_X5_isMissing a σ Q → ∃ (p : Nat) (r : List AV), a = .inr (.inl p) :: r ∧ p < 76 ∧ (SH p).1 = 4 ∧ (SH p).2.1 = 4 := by
  intro a σ Q h
  unfold S_X5_isMissing at h
  split at h
  · exact ⟨1, _, rfl, by decide, rfl, rfl⟩
  · exact h.elim
def mT_X5_isMissing (i : Nat) : Option (Nat × Bool × MSpec) := match i with
  | _ => none
theorem mT_X5_isMissing_ok {l : Launch} {n : Nat} (hn : 0 ≤ n) : ∀ i e, mT_X5_isMissing i = some e → mV l (rmOf n) RX5 i e := by
  intro i e h
  unfold mT_X5_isMissing at h
  split at h
  · cases h
set_option maxRecDepth 100000 in
set_option maxHeartbeats 4000000 in
theorem ok_X5_isMissing : ∀ l n, 0 ≤ n → ∀ a σ Q, S_X5_isMissing a σ Q → AM l n yX5_isMissing cX5_isMissing 2 (some .boolean) a σ Q := by
  intro l n hn a σ Q hS
  unfold S_X5_isMissing at hS
  split at hS
  rotate_left
  · exact hS.elim
  rename_i r
  obtain ⟨r1, r2, hq⟩ := hS
  refine am_ofF 2 cpX5 mT_X5_isMissing (plainFor_of_name (by decide +kernel)) (rfl) (Nat.le_of_ble_eq_true rfl) (cpX5_ok) (mT_X5_isMissing_ok hn) (fun K hK => ?_)
  refine hK (fun _ => false) 200 _ _ _ _ ?_
  simp only [↓wp, ↓stp, ilen, lnth, st1, st2, nolong, nohead, rnth, ↓gfX, ↓pfX, gfV, pfV, cpF, cpP, cndZ, ↓tgo, ↓tsw, ↓lsw, ↓ldI, ↓ldA, ↓ldL, ↓stI, ↓stA, ↓stL, ↓bin, ↓binD, ↓binL, ↓binDL, ↓una, ↓acV, ↓acK, ↓acpy, ↓inv, entL, nones, List.length_cons, List.length_nil, List.take, List.drop, List.reverse_cons, List.reverse_nil, List.nil_append, List.cons_append, Option.toList_some, Option.toList_none, Nat.reduceAdd, Nat.reduceSub, Nat.reduceLT, Nat.reduceEqDiff, Fin.isValue, aTL, aSZ, Int.toNat_natCast, hset_same, hset_o, hset_s, hset_row, ne_eq, Nat.reduceBEq, beq_self_eq_true, Fin.val_zero, Fin.val_one, fin0, fin1, fin2, fin3, Nat.le_refl, Nat.reduceLeDiff, Nat.zero_le, Int.reduceAdd, Int.reduceNeg, Int.reduceLE, Int.reduceLT, Int.reduceToNat, Int.reduceMul, Int.cast_ofNat_Int, Nat.reduceMod, ↓reduceIte, if_true, if_false, and_true, true_and, or_true, true_or, false_or, or_false, and_self, not_true_eq_false, not_false_eq_true, Bool.false_eq_true, reduceCtorEq, false_implies, true_implies, implies_true, and_false, false_and, dX5_isMissing_0, dX5_isMissing_1, dX5_isMissing_4, dX5_isMissing_5, dX5_isMissing_6, dX5_isMissing_7, dX5_isMissing_10, dX5_isMissing_11, dX5_isMissing_14, dX5_isMissing_15, cpX5, mT_X5_isMissing, SHl_0, SHl_1, SHl_2, SHl_3, SHl_4, SHl_5, SHl_6, SHl_7, SHl_8, SHl_9, SHl_10, SHl_11, SHl_12, SHl_13, SHl_14, SHl_15, SHl_16, SHl_17, SHl_18, SHl_19, SHl_20, SHl_21, SHl_22, SHl_23, SHl_24, SHl_25, SHl_26, SHl_27, SHl_28, SHl_29, SHl_30, SHl_31, SHl_32, SHl_33, SHl_34, SHl_35, SHl_36, SHl_37, SHl_38, SHl_39, SHl_40, SHl_41, SHl_42, SHl_43, SHl_44, SHl_45, SHl_46, SHl_47, SHl_48, SHl_49, SHl_50, SHl_51, SHl_52, SHl_53, SHl_54, SHl_55, SHl_56, SHl_57]
  (repeat' (first | apply And.intro | intro _)) <;> first | omega | exact hq | (rw [if_pos (by omega)] at hq; exact hq) | (rw [if_neg (by omega)] at hq; exact hq) | (repeat (first | rw [if_pos (by omega)] at hq | rw [if_neg (by omega)] at hq)) <;> exact hq | assumption | exact R32_of _
def S_X5_ofOneLane : MSpec := fun a σ Q => match a with
  | [.inr (.inl 1), .inl r, .inl s] => (0 ≤ r ∧ r < 8) ∧ (0 ≤ s ∧ s < 8) ∧ (0 ≤ σ 3 r.toNat ∧ σ 3 r.toNat ≤ 2) ∧ (0 ≤ σ 3 s.toNat ∧ σ 3 s.toNat ≤ 2) ∧ Q (some (.inl (if σ 3 r.toNat = σ 3 s.toNat then 1 else 0))) σ
  | _ => False
theorem rc_X5_ofOneLane : ∀ a σ Q, S_X5_ofOneLane a σ Q → ∃ (p : Nat) (r : List AV), a = .inr (.inl p) :: r ∧ p < 76 ∧ (SH p).1 = 4 ∧ (SH p).2.1 = 4 := by
  intro a σ Q h
  unfold S_X5_ofOneLane at h
  split at h
  · exact ⟨1, _, rfl, by decide, rfl, rfl⟩
  · exact h.elim
def mT_X5_ofOneLane (i : Nat) : Option (Nat × Bool × MSpec) := match i with
  | _ => none
theorem mT_X5_ofOneLane_ok {l : Launch} {n : Nat} (hn : 0 ≤ n) : ∀ i e, mT_X5_ofOneLane i = some e → mV l (rmOf n) RX5 i e := by
  intro i e h
  unfold mT_X5_ofOneLane at h
  split at h
  · cases h
set_option maxRecDepth 100000 in
set_option maxHeartbeats 4000000 in
theorem ok_X5_ofOneLane : ∀ l n, 0 ≤ n → ∀ a σ Q, S_X5_ofOneLane a σ Q → AM l n yX5_ofOneLane cX5_ofOneLane 3 (some .boolean) a σ Q := by
  intro l n hn a σ Q hS
  unfold S_X5_ofOneLane at hS
  split at hS
  rotate_left
  · exact hS.elim
  rename_i r s
  obtain ⟨r1, r2, r3, r4, hq⟩ := hS
  refine am_ofF 2 cpX5 mT_X5_ofOneLane (plainFor_of_name (by decide +kernel)) (rfl) (Nat.le_of_ble_eq_true rfl) (cpX5_ok) (mT_X5_ofOneLane_ok hn) (fun K hK => ?_)
  refine hK (fun _ => false) 200 _ _ _ _ ?_
  simp only [↓wp, ↓stp, ilen, lnth, st1, st2, nolong, nohead, rnth, ↓gfX, ↓pfX, gfV, pfV, cpF, cpP, cndZ, ↓tgo, ↓tsw, ↓lsw, ↓ldI, ↓ldA, ↓ldL, ↓stI, ↓stA, ↓stL, ↓bin, ↓binD, ↓binL, ↓binDL, ↓una, ↓acV, ↓acK, ↓acpy, ↓inv, entL, nones, List.length_cons, List.length_nil, List.take, List.drop, List.reverse_cons, List.reverse_nil, List.nil_append, List.cons_append, Option.toList_some, Option.toList_none, Nat.reduceAdd, Nat.reduceSub, Nat.reduceLT, Nat.reduceEqDiff, Fin.isValue, aTL, aSZ, Int.toNat_natCast, hset_same, hset_o, hset_s, hset_row, ne_eq, Nat.reduceBEq, beq_self_eq_true, Fin.val_zero, Fin.val_one, fin0, fin1, fin2, fin3, Nat.le_refl, Nat.reduceLeDiff, Nat.zero_le, Int.reduceAdd, Int.reduceNeg, Int.reduceLE, Int.reduceLT, Int.reduceToNat, Int.reduceMul, Int.cast_ofNat_Int, Nat.reduceMod, ↓reduceIte, if_true, if_false, and_true, true_and, or_true, true_or, false_or, or_false, and_self, not_true_eq_false, not_false_eq_true, Bool.false_eq_true, reduceCtorEq, false_implies, true_implies, implies_true, and_false, false_and, dX5_ofOneLane_0, dX5_ofOneLane_1, dX5_ofOneLane_4, dX5_ofOneLane_5, dX5_ofOneLane_6, dX5_ofOneLane_7, dX5_ofOneLane_10, dX5_ofOneLane_11, dX5_ofOneLane_12, dX5_ofOneLane_15, dX5_ofOneLane_16, dX5_ofOneLane_19, dX5_ofOneLane_20, cpX5, mT_X5_ofOneLane, SHl_0, SHl_1, SHl_2, SHl_3, SHl_4, SHl_5, SHl_6, SHl_7, SHl_8, SHl_9, SHl_10, SHl_11, SHl_12, SHl_13, SHl_14, SHl_15, SHl_16, SHl_17, SHl_18, SHl_19, SHl_20, SHl_21, SHl_22, SHl_23, SHl_24, SHl_25, SHl_26, SHl_27, SHl_28, SHl_29, SHl_30, SHl_31, SHl_32, SHl_33, SHl_34, SHl_35, SHl_36, SHl_37, SHl_38, SHl_39, SHl_40, SHl_41, SHl_42, SHl_43, SHl_44, SHl_45, SHl_46, SHl_47, SHl_48, SHl_49, SHl_50, SHl_51, SHl_52, SHl_53, SHl_54, SHl_55, SHl_56, SHl_57]
  (repeat' (first | apply And.intro | intro _)) <;> first | omega | exact hq | (rw [if_pos (by omega)] at hq; exact hq) | (rw [if_neg (by omega)] at hq; exact hq) | (repeat (first | rw [if_pos (by omega)] at hq | rw [if_neg (by omega)] at hq)) <;> exact hq | assumption | exact R32_of _
def S_X5_holds : MSpec := fun a σ Q => match a with
  | [.inr (.inl 1), .inl r, .inl i, .inl n] => (0 ≤ r ∧ r < 8) ∧ R32 i ∧ R32 n ∧ (-1 ≤ σ 4 r.toNat ∧ σ 4 r.toNat ≤ 40) ∧ Q (some (.inl (if 0 ≤ i ∧ 0 ≤ n ∧ n ≤ σ 4 r.toNat - i then 1 else 0))) σ
  | _ => False
theorem rc_X5_holds : ∀ a σ Q, S_X5_holds a σ Q → ∃ (p : Nat) (r : List AV), a = .inr (.inl p) :: r ∧ p < 76 ∧ (SH p).1 = 4 ∧ (SH p).2.1 = 4 := by
  intro a σ Q h
  unfold S_X5_holds at h
  split at h
  · exact ⟨1, _, rfl, by decide, rfl, rfl⟩
  · exact h.elim
def mT_X5_holds (i : Nat) : Option (Nat × Bool × MSpec) := match i with
  | _ => none
theorem mT_X5_holds_ok {l : Launch} {n : Nat} (hn : 0 ≤ n) : ∀ i e, mT_X5_holds i = some e → mV l (rmOf n) RX5 i e := by
  intro i e h
  unfold mT_X5_holds at h
  split at h
  · cases h
set_option maxRecDepth 100000 in
set_option maxHeartbeats 4000000 in
theorem ok_X5_holds : ∀ l n, 0 ≤ n → ∀ a σ Q, S_X5_holds a σ Q → AM l n yX5_holds cX5_holds 4 (some .boolean) a σ Q := by
  intro l n hn a σ Q hS
  unfold S_X5_holds at hS
  split at hS
  rotate_left
  · exact hS.elim
  rename_i r i n
  obtain ⟨r1, ⟨i1, i2⟩, ⟨n1, n2⟩, r3, hq⟩ := hS
  refine am_ofF 2 cpX5 mT_X5_holds (plainFor_of_name (by decide +kernel)) (rfl) (Nat.le_of_ble_eq_true rfl) (cpX5_ok) (mT_X5_holds_ok hn) (fun K hK => ?_)
  refine hK (fun _ => false) 200 _ _ _ _ ?_
  simp only [↓wp, ↓stp, ilen, lnth, st1, st2, nolong, nohead, rnth, ↓gfX, ↓pfX, gfV, pfV, cpF, cpP, cndZ, ↓tgo, ↓tsw, ↓lsw, ↓ldI, ↓ldA, ↓ldL, ↓stI, ↓stA, ↓stL, ↓bin, ↓binD, ↓binL, ↓binDL, ↓una, ↓acV, ↓acK, ↓acpy, ↓inv, entL, nones, List.length_cons, List.length_nil, List.take, List.drop, List.reverse_cons, List.reverse_nil, List.nil_append, List.cons_append, Option.toList_some, Option.toList_none, Nat.reduceAdd, Nat.reduceSub, Nat.reduceLT, Nat.reduceEqDiff, Fin.isValue, aTL, aSZ, Int.toNat_natCast, hset_same, hset_o, hset_s, hset_row, ne_eq, Nat.reduceBEq, beq_self_eq_true, Fin.val_zero, Fin.val_one, fin0, fin1, fin2, fin3, Nat.le_refl, Nat.reduceLeDiff, Nat.zero_le, Int.reduceAdd, Int.reduceNeg, Int.reduceLE, Int.reduceLT, Int.reduceToNat, Int.reduceMul, Int.cast_ofNat_Int, Nat.reduceMod, ↓reduceIte, if_true, if_false, and_true, true_and, or_true, true_or, false_or, or_false, and_self, not_true_eq_false, not_false_eq_true, Bool.false_eq_true, reduceCtorEq, false_implies, true_implies, implies_true, and_false, false_and, dX5_holds_0, dX5_holds_1, dX5_holds_4, dX5_holds_5, dX5_holds_8, dX5_holds_9, dX5_holds_10, dX5_holds_13, dX5_holds_14, dX5_holds_15, dX5_holds_16, dX5_holds_17, dX5_holds_20, dX5_holds_21, dX5_holds_24, dX5_holds_25, cpX5, mT_X5_holds, SHl_0, SHl_1, SHl_2, SHl_3, SHl_4, SHl_5, SHl_6, SHl_7, SHl_8, SHl_9, SHl_10, SHl_11, SHl_12, SHl_13, SHl_14, SHl_15, SHl_16, SHl_17, SHl_18, SHl_19, SHl_20, SHl_21, SHl_22, SHl_23, SHl_24, SHl_25, SHl_26, SHl_27, SHl_28, SHl_29, SHl_30, SHl_31, SHl_32, SHl_33, SHl_34, SHl_35, SHl_36, SHl_37, SHl_38, SHl_39, SHl_40, SHl_41, SHl_42, SHl_43, SHl_44, SHl_45, SHl_46, SHl_47, SHl_48, SHl_49, SHl_50, SHl_51, SHl_52, SHl_53, SHl_54, SHl_55, SHl_56, SHl_57]
  (repeat' (first | apply And.intro | intro _)) <;> first | omega | exact hq | (rw [if_pos (by omega)] at hq; exact hq) | (rw [if_neg (by omega)] at hq; exact hq) | (repeat (first | rw [if_pos (by omega)] at hq | rw [if_neg (by omega)] at hq)) <;> exact hq | assumption | exact R32_of _
def S_X5_itemOf : MSpec := fun a σ Q => match a with
  | [.inr (.inl 1), .inl r, .inl i] => (0 ≤ r ∧ r < 8) ∧ (0 ≤ i ∧ i < 40) ∧ Q (some (.inl (σ 2 (r * 40 + i).toNat))) σ
  | _ => False
theorem rc_X5_itemOf : ∀ a σ Q, S_X5_itemOf a σ Q → ∃ (p : Nat) (r : List AV), a = .inr (.inl p) :: r ∧ p < 76 ∧ (SH p).1 = 4 ∧ (SH p).2.1 = 4 := by
  intro a σ Q h
  unfold S_X5_itemOf at h
  split at h
  · exact ⟨1, _, rfl, by decide, rfl, rfl⟩
  · exact h.elim
def mT_X5_itemOf (i : Nat) : Option (Nat × Bool × MSpec) := match i with
  | _ => none
theorem mT_X5_itemOf_ok {l : Launch} {n : Nat} (hn : 0 ≤ n) : ∀ i e, mT_X5_itemOf i = some e → mV l (rmOf n) RX5 i e := by
  intro i e h
  unfold mT_X5_itemOf at h
  split at h
  · cases h
set_option maxRecDepth 100000 in
set_option maxHeartbeats 4000000 in
theorem ok_X5_itemOf : ∀ l n, 0 ≤ n → ∀ a σ Q, S_X5_itemOf a σ Q → AM l n yX5_itemOf cX5_itemOf 3 (some .int) a σ Q := by
  intro l n hn a σ Q hS
  unfold S_X5_itemOf at hS
  split at hS
  rotate_left
  · exact hS.elim
  rename_i r i
  obtain ⟨r1, r2, hq⟩ := hS
  refine am_ofF 1 cpX5 mT_X5_itemOf (plainFor_of_name (by decide +kernel)) (rfl) (Nat.le_of_ble_eq_true rfl) (cpX5_ok) (mT_X5_itemOf_ok hn) (fun K hK => ?_)
  refine hK (fun _ => false) 200 _ _ _ _ ?_
  simp only [↓wp, ↓stp, ilen, lnth, st1, st2, nolong, nohead, rnth, ↓gfX, ↓pfX, gfV, pfV, cpF, cpP, cndZ, ↓tgo, ↓tsw, ↓lsw, ↓ldI, ↓ldA, ↓ldL, ↓stI, ↓stA, ↓stL, ↓bin, ↓binD, ↓binL, ↓binDL, ↓una, ↓acV, ↓acK, ↓acpy, ↓inv, entL, nones, List.length_cons, List.length_nil, List.take, List.drop, List.reverse_cons, List.reverse_nil, List.nil_append, List.cons_append, Option.toList_some, Option.toList_none, Nat.reduceAdd, Nat.reduceSub, Nat.reduceLT, Nat.reduceEqDiff, Fin.isValue, aTL, aSZ, Int.toNat_natCast, hset_same, hset_o, hset_s, hset_row, ne_eq, Nat.reduceBEq, beq_self_eq_true, Fin.val_zero, Fin.val_one, fin0, fin1, fin2, fin3, Nat.le_refl, Nat.reduceLeDiff, Nat.zero_le, Int.reduceAdd, Int.reduceNeg, Int.reduceLE, Int.reduceLT, Int.reduceToNat, Int.reduceMul, Int.cast_ofNat_Int, Nat.reduceMod, ↓reduceIte, if_true, if_false, and_true, true_and, or_true, true_or, false_or, or_false, and_self, not_true_eq_false, not_false_eq_true, Bool.false_eq_true, reduceCtorEq, false_implies, true_implies, implies_true, and_false, false_and, dX5_itemOf_0, dX5_itemOf_1, dX5_itemOf_4, dX5_itemOf_5, dX5_itemOf_7, dX5_itemOf_8, dX5_itemOf_9, dX5_itemOf_10, dX5_itemOf_11, cpX5, mT_X5_itemOf, SHl_0, SHl_1, SHl_2, SHl_3, SHl_4, SHl_5, SHl_6, SHl_7, SHl_8, SHl_9, SHl_10, SHl_11, SHl_12, SHl_13, SHl_14, SHl_15, SHl_16, SHl_17, SHl_18, SHl_19, SHl_20, SHl_21, SHl_22, SHl_23, SHl_24, SHl_25, SHl_26, SHl_27, SHl_28, SHl_29, SHl_30, SHl_31, SHl_32, SHl_33, SHl_34, SHl_35, SHl_36, SHl_37, SHl_38, SHl_39, SHl_40, SHl_41, SHl_42, SHl_43, SHl_44, SHl_45, SHl_46, SHl_47, SHl_48, SHl_49, SHl_50, SHl_51, SHl_52, SHl_53, SHl_54, SHl_55, SHl_56, SHl_57]
  (repeat' (first | apply And.intro | intro _)) <;> first | omega | exact hq | (rw [if_pos (by omega)] at hq; exact hq) | (rw [if_neg (by omega)] at hq; exact hq) | (repeat (first | rw [if_pos (by omega)] at hq | rw [if_neg (by omega)] at hq)) <;> exact hq | assumption | exact R32_of _
def S_X5_lose : MSpec := fun a σ Q => match a with
  | [.inr (.inl 1), .inl r] => (0 ≤ r ∧ r < 8) ∧ Q (some (.inl (σ 4 r.toNat))) (hset σ 4 r.toNat (-1))
  | _ => False
theorem rc_X5_lose : ∀ a σ Q, S_X5_lose a σ Q → ∃ (p : Nat) (r : List AV), a = .inr (.inl p) :: r ∧ p < 76 ∧ (SH p).1 = 4 ∧ (SH p).2.1 = 4 := by
  intro a σ Q h
  unfold S_X5_lose at h
  split at h
  · exact ⟨1, _, rfl, by decide, rfl, rfl⟩
  · exact h.elim
def mT_X5_lose (i : Nat) : Option (Nat × Bool × MSpec) := match i with
  | _ => none
theorem mT_X5_lose_ok {l : Launch} {n : Nat} (hn : 0 ≤ n) : ∀ i e, mT_X5_lose i = some e → mV l (rmOf n) RX5 i e := by
  intro i e h
  unfold mT_X5_lose at h
  split at h
  · cases h
set_option maxRecDepth 100000 in
set_option maxHeartbeats 4000000 in
theorem ok_X5_lose : ∀ l n, 0 ≤ n → ∀ a σ Q, S_X5_lose a σ Q → AM l n yX5_lose cX5_lose 3 (some .int) a σ Q := by
  intro l n hn a σ Q hS
  unfold S_X5_lose at hS
  split at hS
  rotate_left
  · exact hS.elim
  rename_i r
  obtain ⟨r1, hq⟩ := hS
  refine am_ofF 1 cpX5 mT_X5_lose (plainFor_of_name (by decide +kernel)) (rfl) (Nat.le_of_ble_eq_true rfl) (cpX5_ok) (mT_X5_lose_ok hn) (fun K hK => ?_)
  refine hK (fun _ => false) 200 _ _ _ _ ?_
  simp only [↓wp, ↓stp, ilen, lnth, st1, st2, nolong, nohead, rnth, ↓gfX, ↓pfX, gfV, pfV, cpF, cpP, cndZ, ↓tgo, ↓tsw, ↓lsw, ↓ldI, ↓ldA, ↓ldL, ↓stI, ↓stA, ↓stL, ↓bin, ↓binD, ↓binL, ↓binDL, ↓una, ↓acV, ↓acK, ↓acpy, ↓inv, entL, nones, List.length_cons, List.length_nil, List.take, List.drop, List.reverse_cons, List.reverse_nil, List.nil_append, List.cons_append, Option.toList_some, Option.toList_none, Nat.reduceAdd, Nat.reduceSub, Nat.reduceLT, Nat.reduceEqDiff, Fin.isValue, aTL, aSZ, Int.toNat_natCast, hset_same, hset_o, hset_s, hset_row, ne_eq, Nat.reduceBEq, beq_self_eq_true, Fin.val_zero, Fin.val_one, fin0, fin1, fin2, fin3, Nat.le_refl, Nat.reduceLeDiff, Nat.zero_le, Int.reduceAdd, Int.reduceNeg, Int.reduceLE, Int.reduceLT, Int.reduceToNat, Int.reduceMul, Int.cast_ofNat_Int, Nat.reduceMod, ↓reduceIte, if_true, if_false, and_true, true_and, or_true, true_or, false_or, or_false, and_self, not_true_eq_false, not_false_eq_true, Bool.false_eq_true, reduceCtorEq, false_implies, true_implies, implies_true, and_false, false_and, dX5_lose_0, dX5_lose_1, dX5_lose_4, dX5_lose_5, dX5_lose_6, dX5_lose_7, dX5_lose_8, dX5_lose_11, dX5_lose_12, dX5_lose_13, dX5_lose_14, dX5_lose_15, cpX5, mT_X5_lose, SHl_0, SHl_1, SHl_2, SHl_3, SHl_4, SHl_5, SHl_6, SHl_7, SHl_8, SHl_9, SHl_10, SHl_11, SHl_12, SHl_13, SHl_14, SHl_15, SHl_16, SHl_17, SHl_18, SHl_19, SHl_20, SHl_21, SHl_22, SHl_23, SHl_24, SHl_25, SHl_26, SHl_27, SHl_28, SHl_29, SHl_30, SHl_31, SHl_32, SHl_33, SHl_34, SHl_35, SHl_36, SHl_37, SHl_38, SHl_39, SHl_40, SHl_41, SHl_42, SHl_43, SHl_44, SHl_45, SHl_46, SHl_47, SHl_48, SHl_49, SHl_50, SHl_51, SHl_52, SHl_53, SHl_54, SHl_55, SHl_56, SHl_57]
  (repeat' (first | apply And.intro | intro _)) <;> first | omega | exact hq | (rw [if_pos (by omega)] at hq; exact hq) | (rw [if_neg (by omega)] at hq; exact hq) | (repeat (first | rw [if_pos (by omega)] at hq | rw [if_neg (by omega)] at hq)) <;> exact hq | assumption | exact R32_of _
def laneV (ln v : Int) : Int := if ln = 0 then zi2b v else if ln = 1 then zi2s v else v
def S_X5_put : MSpec := fun a σ Q => match a with
  | [.inr (.inl 1), .inl r, .inl i, .inl v] => (0 ≤ r ∧ r < 8) ∧ (0 ≤ i ∧ i < 40) ∧ (0 ≤ σ 3 r.toNat ∧ σ 3 r.toNat ≤ 2) ∧ Q (some (.inl (laneV (σ 3 r.toNat) v))) (hset σ 2 (r * 40 + i).toNat (laneV (σ 3 r.toNat) v))
  | _ => False
theorem rc_X5_put : ∀ a σ Q, S_X5_put a σ Q → ∃ (p : Nat) (r : List AV), a = .inr (.inl p) :: r ∧ p < 76 ∧ (SH p).1 = 4 ∧ (SH p).2.1 = 4 := by
  intro a σ Q h
  unfold S_X5_put at h
  split at h
  · exact ⟨1, _, rfl, by decide, rfl, rfl⟩
  · exact h.elim
def mT_X5_put (i : Nat) : Option (Nat × Bool × MSpec) := match i with
  | _ => none
theorem mT_X5_put_ok {l : Launch} {n : Nat} (hn : 0 ≤ n) : ∀ i e, mT_X5_put i = some e → mV l (rmOf n) RX5 i e := by
  intro i e h
  unfold mT_X5_put at h
  split at h
  · cases h
set_option maxRecDepth 100000 in
set_option maxHeartbeats 4000000 in
theorem ok_X5_put : ∀ l n, 0 ≤ n → ∀ a σ Q, S_X5_put a σ Q → AM l n yX5_put cX5_put 5 (some .int) a σ Q := by
  intro l n hn a σ Q hS
  unfold S_X5_put at hS
  split at hS
  rotate_left
  · exact hS.elim
  rename_i r i v
  obtain ⟨r1, r2, r3, hq⟩ := hS
  refine am_ofF 1 cpX5 mT_X5_put (plainFor_of_name (by decide +kernel)) (rfl) (Nat.le_of_ble_eq_true rfl) (cpX5_ok) (mT_X5_put_ok hn) (fun K hK => ?_)
  refine hK (fun _ => false) 200 _ _ _ _ ?_
  simp only [↓wp, ↓stp, ilen, lnth, st1, st2, nolong, nohead, rnth, ↓gfX, ↓pfX, gfV, pfV, cpF, cpP, cndZ, ↓tgo, ↓tsw, ↓lsw, ↓ldI, ↓ldA, ↓ldL, ↓stI, ↓stA, ↓stL, ↓bin, ↓binD, ↓binL, ↓binDL, ↓una, ↓acV, ↓acK, ↓acpy, ↓inv, entL, nones, List.length_cons, List.length_nil, List.take, List.drop, List.reverse_cons, List.reverse_nil, List.nil_append, List.cons_append, Option.toList_some, Option.toList_none, Nat.reduceAdd, Nat.reduceSub, Nat.reduceLT, Nat.reduceEqDiff, Fin.isValue, aTL, aSZ, Int.toNat_natCast, hset_same, hset_o, hset_s, hset_row, ne_eq, Nat.reduceBEq, beq_self_eq_true, Fin.val_zero, Fin.val_one, fin0, fin1, fin2, fin3, Nat.le_refl, Nat.reduceLeDiff, Nat.zero_le, Int.reduceAdd, Int.reduceNeg, Int.reduceLE, Int.reduceLT, Int.reduceToNat, Int.reduceMul, Int.cast_ofNat_Int, Nat.reduceMod, ↓reduceIte, if_true, if_false, and_true, true_and, or_true, true_or, false_or, or_false, and_self, not_true_eq_false, not_false_eq_true, Bool.false_eq_true, reduceCtorEq, false_implies, true_implies, implies_true, and_false, false_and, dX5_put_0, dX5_put_1, dX5_put_3, dX5_put_4, dX5_put_7, dX5_put_8, dX5_put_9, dX5_put_12, dX5_put_13, dX5_put_14, dX5_put_16, dX5_put_19, dX5_put_20, dX5_put_23, dX5_put_24, dX5_put_25, dX5_put_26, dX5_put_29, dX5_put_30, dX5_put_31, dX5_put_33, dX5_put_34, dX5_put_37, dX5_put_38, dX5_put_40, dX5_put_41, dX5_put_42, dX5_put_43, dX5_put_45, dX5_put_46, dX5_put_48, cpX5, mT_X5_put, SHl_0, SHl_1, SHl_2, SHl_3, SHl_4, SHl_5, SHl_6, SHl_7, SHl_8, SHl_9, SHl_10, SHl_11, SHl_12, SHl_13, SHl_14, SHl_15, SHl_16, SHl_17, SHl_18, SHl_19, SHl_20, SHl_21, SHl_22, SHl_23, SHl_24, SHl_25, SHl_26, SHl_27, SHl_28, SHl_29, SHl_30, SHl_31, SHl_32, SHl_33, SHl_34, SHl_35, SHl_36, SHl_37, SHl_38, SHl_39, SHl_40, SHl_41, SHl_42, SHl_43, SHl_44, SHl_45, SHl_46, SHl_47, SHl_48, SHl_49, SHl_50, SHl_51, SHl_52, SHl_53, SHl_54, SHl_55, SHl_56, SHl_57]
  unfold laneV at hq
  (repeat' (first | apply And.intro | intro _)) <;> first | omega | exact hq | (rw [if_pos (by omega)] at hq; exact hq) | (rw [if_neg (by omega)] at hq; exact hq) | (repeat (first | rw [if_pos (by omega)] at hq | rw [if_neg (by omega)] at hq)) <;> exact hq | assumption | exact R32_of _
def S_X5_carry : MSpec := fun a σ Q => match a with
  | [.inr (.inl 1), .inl r, .inl i, .inl s, .inl j, .inl n] => (0 ≤ r ∧ r < 8) ∧ (0 ≤ s ∧ s < 8) ∧ 0 ≤ i ∧ 0 ≤ j ∧ 0 ≤ n ∧ i + n ≤ 40 ∧ j + n ≤ 40 ∧ Q none (hcpy σ 2 (r * 40 + i) 2 (s * 40 + j) n)
  | _ => False
theorem rc_X5_carry : ∀ a σ Q, S_X5_carry a σ Q → ∃ (p : Nat) (r : List AV), a = .inr (.inl p) :: r ∧ p < 76 ∧ (SH p).1 = 4 ∧ (SH p).2.1 = 4 := by
  intro a σ Q h
  unfold S_X5_carry at h
  split at h
  · exact ⟨1, _, rfl, by decide, rfl, rfl⟩
  · exact h.elim
def mT_X5_carry (i : Nat) : Option (Nat × Bool × MSpec) := match i with
  | _ => none
theorem mT_X5_carry_ok {l : Launch} {n : Nat} (hn : 0 ≤ n) : ∀ i e, mT_X5_carry i = some e → mV l (rmOf n) RX5 i e := by
  intro i e h
  unfold mT_X5_carry at h
  split at h
  · cases h
set_option maxRecDepth 100000 in
set_option maxHeartbeats 4000000 in
theorem ok_X5_carry : ∀ l n, 0 ≤ n → ∀ a σ Q, S_X5_carry a σ Q → AM l n yX5_carry cX5_carry 6 none a σ Q := by
  intro l n hn a σ Q hS
  unfold S_X5_carry at hS
  split at hS
  rotate_left
  · exact hS.elim
  rename_i r i s j n
  obtain ⟨r1, r2, h3, h4, h5, h6, h7, hq⟩ := hS
  refine am_ofF 0 cpX5 mT_X5_carry (plainFor_of_name (by decide +kernel)) (rfl) (Nat.le_of_ble_eq_true rfl) (cpX5_ok) (mT_X5_carry_ok hn) (fun K hK => ?_)
  refine hK (fun _ => false) 200 _ _ _ _ ?_
  simp only [↓wp, ↓stp, ilen, lnth, st1, st2, nolong, nohead, rnth, ↓gfX, ↓pfX, gfV, pfV, cpF, cpP, cndZ, ↓tgo, ↓tsw, ↓lsw, ↓ldI, ↓ldA, ↓ldL, ↓stI, ↓stA, ↓stL, ↓bin, ↓binD, ↓binL, ↓binDL, ↓una, ↓acV, ↓acK, ↓acpy, ↓inv, entL, nones, List.length_cons, List.length_nil, List.take, List.drop, List.reverse_cons, List.reverse_nil, List.nil_append, List.cons_append, Option.toList_some, Option.toList_none, Nat.reduceAdd, Nat.reduceSub, Nat.reduceLT, Nat.reduceEqDiff, Fin.isValue, aTL, aSZ, Int.toNat_natCast, hset_same, hset_o, hset_s, hset_row, ne_eq, Nat.reduceBEq, beq_self_eq_true, Fin.val_zero, Fin.val_one, fin0, fin1, fin2, fin3, Nat.le_refl, Nat.reduceLeDiff, Nat.zero_le, Int.reduceAdd, Int.reduceNeg, Int.reduceLE, Int.reduceLT, Int.reduceToNat, Int.reduceMul, Int.cast_ofNat_Int, Nat.reduceMod, ↓reduceIte, if_true, if_false, and_true, true_and, or_true, true_or, false_or, or_false, and_self, not_true_eq_false, not_false_eq_true, Bool.false_eq_true, reduceCtorEq, false_implies, true_implies, implies_true, and_false, false_and, dX5_carry_0, dX5_carry_1, dX5_carry_4, dX5_carry_5, dX5_carry_7, dX5_carry_8, dX5_carry_9, dX5_carry_10, dX5_carry_11, dX5_carry_14, dX5_carry_15, dX5_carry_17, dX5_carry_18, dX5_carry_20, dX5_carry_21, dX5_carry_23, dX5_carry_26, cpX5, mT_X5_carry, SHl_0, SHl_1, SHl_2, SHl_3, SHl_4, SHl_5, SHl_6, SHl_7, SHl_8, SHl_9, SHl_10, SHl_11, SHl_12, SHl_13, SHl_14, SHl_15, SHl_16, SHl_17, SHl_18, SHl_19, SHl_20, SHl_21, SHl_22, SHl_23, SHl_24, SHl_25, SHl_26, SHl_27, SHl_28, SHl_29, SHl_30, SHl_31, SHl_32, SHl_33, SHl_34, SHl_35, SHl_36, SHl_37, SHl_38, SHl_39, SHl_40, SHl_41, SHl_42, SHl_43, SHl_44, SHl_45, SHl_46, SHl_47, SHl_48, SHl_49, SHl_50, SHl_51, SHl_52, SHl_53, SHl_54, SHl_55, SHl_56, SHl_57]
  (repeat' (first | apply And.intro | intro _)) <;> first | omega | exact hq | (rw [if_pos (by omega)] at hq; exact hq) | (rw [if_neg (by omega)] at hq; exact hq) | (repeat (first | rw [if_pos (by omega)] at hq | rw [if_neg (by omega)] at hq)) <;> exact hq | assumption | exact R32_of _
def S_X5_make : MSpec := fun a σ Q => match a with
  | [.inr (.inl 1), .inl r, .inl ln, .inl n] => (0 ≤ r ∧ r < 8) ∧ (0 ≤ n ∧ n ≤ 40) ∧ Q none (hfill (hset (hset σ 3 r.toNat ln) 4 r.toNat n) 2 (r * 40).toNat n.toNat)
  | _ => False
theorem rc_X5_make : ∀ a σ Q, S_X5_make a σ Q → ∃ (p : Nat) (r : List AV), a = .inr (.inl p) :: r ∧ p < 76 ∧ (SH p).1 = 4 ∧ (SH p).2.1 = 4 := by
  intro a σ Q h
  unfold S_X5_make at h
  split at h
  · exact ⟨1, _, rfl, by decide, rfl, rfl⟩
  · exact h.elim
def mT_X5_make (i : Nat) : Option (Nat × Bool × MSpec) := match i with
  | _ => none
theorem mT_X5_make_ok {l : Launch} {n : Nat} (hn : 0 ≤ n) : ∀ i e, mT_X5_make i = some e → mV l (rmOf n) RX5 i e := by
  intro i e h
  unfold mT_X5_make at h
  split at h
  · cases h
set_option maxHeartbeats 4000000 in
theorem ok_X5_make : ∀ l n, 0 ≤ n → ∀ a σ Q, S_X5_make a σ Q → AM l n yX5_make cX5_make 5 none a σ Q := by
  intro l n hn a σ Q hS
  unfold S_X5_make at hS
  split at hS
  rotate_left
  · exact hS.elim
  rename_i r ln n'
  obtain ⟨r1, r2, hq⟩ := hS
  obtain ⟨N, rfl⟩ : ∃ N : Nat, n' = (N : Int) := ⟨n'.toNat, by omega⟩
  refine am_ofF 0 cpX5 mT_X5_make (plainFor_of_name (by decide +kernel)) (rfl) (Nat.le_of_ble_eq_true rfl) (cpX5_ok) (mT_X5_make_ok hn) (fun K hK => ?_)
  have loop : ∀ (k i : Nat), i + k = N → K 17 [some (.inr (.inl 1)), some (.inl r), some (.inl ln), some (.inl (N : Int)), some (.inl (i : Int))] [] (hfill (hset (hset σ 3 r.toNat ln) 4 r.toNat N) 2 (r * 40).toNat i) := by
    intro k
    induction k with
    | zero =>
      intro i hi
      refine hK (fun q => q == 17) 60 _ _ _ _ ?_
      simp only [↓wp, ↓stp, ilen, lnth, st1, st2, nolong, nohead, rnth, ↓gfX, ↓pfX, gfV, pfV, cpF, cpP, cndZ, ↓tgo, ↓tsw, ↓lsw, ↓ldI, ↓ldA, ↓ldL, ↓stI, ↓stA, ↓stL, ↓bin, ↓binD, ↓binL, ↓binDL, ↓una, ↓acV, ↓acK, ↓acpy, ↓inv, entL, nones, List.length_cons, List.length_nil, List.take, List.drop, List.reverse_cons, List.reverse_nil, List.nil_append, List.cons_append, Option.toList_some, Option.toList_none, Nat.reduceAdd, Nat.reduceSub, Nat.reduceLT, Nat.reduceEqDiff, Fin.isValue, aTL, aSZ, Int.toNat_natCast, hset_same, hset_o, hset_s, hset_row, ne_eq, Nat.reduceBEq, beq_self_eq_true, Fin.val_zero, Fin.val_one, fin0, fin1, fin2, fin3, Nat.le_refl, Nat.reduceLeDiff, Nat.zero_le, Int.reduceAdd, Int.reduceNeg, Int.reduceLE, Int.reduceLT, Int.reduceToNat, Int.reduceMul, Int.cast_ofNat_Int, Nat.reduceMod, ↓reduceIte, if_true, if_false, and_true, true_and, or_true, true_or, false_or, or_false, and_self, not_true_eq_false, not_false_eq_true, Bool.false_eq_true, reduceCtorEq, false_implies, true_implies, implies_true, and_false, false_and, dX5_make_0, dX5_make_1, dX5_make_4, dX5_make_5, dX5_make_6, dX5_make_7, dX5_make_8, dX5_make_11, dX5_make_12, dX5_make_13, dX5_make_14, dX5_make_15, dX5_make_17, dX5_make_19, dX5_make_20, dX5_make_23, dX5_make_24, dX5_make_27, dX5_make_28, dX5_make_30, dX5_make_31, dX5_make_33, dX5_make_34, dX5_make_35, dX5_make_36, dX5_make_39, dX5_make_42, cpX5, mT_X5_make, SHl_0, SHl_1, SHl_2, SHl_3, SHl_4, SHl_5, SHl_6, SHl_7, SHl_8, SHl_9, SHl_10, SHl_11, SHl_12, SHl_13, SHl_14, SHl_15, SHl_16, SHl_17, SHl_18, SHl_19, SHl_20, SHl_21, SHl_22, SHl_23, SHl_24, SHl_25, SHl_26, SHl_27, SHl_28, SHl_29, SHl_30, SHl_31, SHl_32, SHl_33, SHl_34, SHl_35, SHl_36, SHl_37, SHl_38, SHl_39, SHl_40, SHl_41, SHl_42, SHl_43, SHl_44, SHl_45, SHl_46, SHl_47, SHl_48, SHl_49, SHl_50, SHl_51, SHl_52, SHl_53, SHl_54, SHl_55, SHl_56, SHl_57]
      refine ⟨⟨by omega, by omega⟩, ⟨by omega, by omega⟩, fun q => ?_, fun q => by omega⟩
      rw [show i = N by omega]
      exact hq
    | succ k ih =>
      intro i hi
      refine hK (fun q => q == 17) 60 _ _ _ _ ?_
      simp only [↓wp, ↓stp, ilen, lnth, st1, st2, nolong, nohead, rnth, ↓gfX, ↓pfX, gfV, pfV, cpF, cpP, cndZ, ↓tgo, ↓tsw, ↓lsw, ↓ldI, ↓ldA, ↓ldL, ↓stI, ↓stA, ↓stL, ↓bin, ↓binD, ↓binL, ↓binDL, ↓una, ↓acV, ↓acK, ↓acpy, ↓inv, entL, nones, List.length_cons, List.length_nil, List.take, List.drop, List.reverse_cons, List.reverse_nil, List.nil_append, List.cons_append, Option.toList_some, Option.toList_none, Nat.reduceAdd, Nat.reduceSub, Nat.reduceLT, Nat.reduceEqDiff, Fin.isValue, aTL, aSZ, Int.toNat_natCast, hset_same, hset_o, hset_s, hset_row, ne_eq, Nat.reduceBEq, beq_self_eq_true, Fin.val_zero, Fin.val_one, fin0, fin1, fin2, fin3, Nat.le_refl, Nat.reduceLeDiff, Nat.zero_le, Int.reduceAdd, Int.reduceNeg, Int.reduceLE, Int.reduceLT, Int.reduceToNat, Int.reduceMul, Int.cast_ofNat_Int, Nat.reduceMod, ↓reduceIte, if_true, if_false, and_true, true_and, or_true, true_or, false_or, or_false, and_self, not_true_eq_false, not_false_eq_true, Bool.false_eq_true, reduceCtorEq, false_implies, true_implies, implies_true, and_false, false_and, dX5_make_0, dX5_make_1, dX5_make_4, dX5_make_5, dX5_make_6, dX5_make_7, dX5_make_8, dX5_make_11, dX5_make_12, dX5_make_13, dX5_make_14, dX5_make_15, dX5_make_17, dX5_make_19, dX5_make_20, dX5_make_23, dX5_make_24, dX5_make_27, dX5_make_28, dX5_make_30, dX5_make_31, dX5_make_33, dX5_make_34, dX5_make_35, dX5_make_36, dX5_make_39, dX5_make_42, cpX5, mT_X5_make, SHl_0, SHl_1, SHl_2, SHl_3, SHl_4, SHl_5, SHl_6, SHl_7, SHl_8, SHl_9, SHl_10, SHl_11, SHl_12, SHl_13, SHl_14, SHl_15, SHl_16, SHl_17, SHl_18, SHl_19, SHl_20, SHl_21, SHl_22, SHl_23, SHl_24, SHl_25, SHl_26, SHl_27, SHl_28, SHl_29, SHl_30, SHl_31, SHl_32, SHl_33, SHl_34, SHl_35, SHl_36, SHl_37, SHl_38, SHl_39, SHl_40, SHl_41, SHl_42, SHl_43, SHl_44, SHl_45, SHl_46, SHl_47, SHl_48, SHl_49, SHl_50, SHl_51, SHl_52, SHl_53, SHl_54, SHl_55, SHl_56, SHl_57]
      refine ⟨⟨by omega, by omega⟩, ⟨by omega, by omega⟩, fun q => by omega, fun q => ⟨by omega, by omega, ?_⟩⟩
      have := ih (i + 1) (by omega)
      rw [← hfill_step, show (r * 40).toNat + i = (r * 40 + (i : Int)).toNat by omega] at this
      exact this
  refine hK (fun q => q == 17) 60 _ _ _ _ ?_
  simp only [↓wp, ↓stp, ilen, lnth, st1, st2, nolong, nohead, rnth, ↓gfX, ↓pfX, gfV, pfV, cpF, cpP, cndZ, ↓tgo, ↓tsw, ↓lsw, ↓ldI, ↓ldA, ↓ldL, ↓stI, ↓stA, ↓stL, ↓bin, ↓binD, ↓binL, ↓binDL, ↓una, ↓acV, ↓acK, ↓acpy, ↓inv, entL, nones, List.length_cons, List.length_nil, List.take, List.drop, List.reverse_cons, List.reverse_nil, List.nil_append, List.cons_append, Option.toList_some, Option.toList_none, Nat.reduceAdd, Nat.reduceSub, Nat.reduceLT, Nat.reduceEqDiff, Fin.isValue, aTL, aSZ, Int.toNat_natCast, hset_same, hset_o, hset_s, hset_row, ne_eq, Nat.reduceBEq, beq_self_eq_true, Fin.val_zero, Fin.val_one, fin0, fin1, fin2, fin3, Nat.le_refl, Nat.reduceLeDiff, Nat.zero_le, Int.reduceAdd, Int.reduceNeg, Int.reduceLE, Int.reduceLT, Int.reduceToNat, Int.reduceMul, Int.cast_ofNat_Int, Nat.reduceMod, ↓reduceIte, if_true, if_false, and_true, true_and, or_true, true_or, false_or, or_false, and_self, not_true_eq_false, not_false_eq_true, Bool.false_eq_true, reduceCtorEq, false_implies, true_implies, implies_true, and_false, false_and, dX5_make_0, dX5_make_1, dX5_make_4, dX5_make_5, dX5_make_6, dX5_make_7, dX5_make_8, dX5_make_11, dX5_make_12, dX5_make_13, dX5_make_14, dX5_make_15, dX5_make_17, dX5_make_19, dX5_make_20, dX5_make_23, dX5_make_24, dX5_make_27, dX5_make_28, dX5_make_30, dX5_make_31, dX5_make_33, dX5_make_34, dX5_make_35, dX5_make_36, dX5_make_39, dX5_make_42, cpX5, mT_X5_make, SHl_0, SHl_1, SHl_2, SHl_3, SHl_4, SHl_5, SHl_6, SHl_7, SHl_8, SHl_9, SHl_10, SHl_11, SHl_12, SHl_13, SHl_14, SHl_15, SHl_16, SHl_17, SHl_18, SHl_19, SHl_20, SHl_21, SHl_22, SHl_23, SHl_24, SHl_25, SHl_26, SHl_27, SHl_28, SHl_29, SHl_30, SHl_31, SHl_32, SHl_33, SHl_34, SHl_35, SHl_36, SHl_37, SHl_38, SHl_39, SHl_40, SHl_41, SHl_42, SHl_43, SHl_44, SHl_45, SHl_46, SHl_47, SHl_48, SHl_49, SHl_50, SHl_51, SHl_52, SHl_53, SHl_54, SHl_55, SHl_56, SHl_57]
  refine ⟨by omega, by omega, by omega, by omega, ?_⟩
  have := loop N 0 (by omega)
  rw [hfill_0] at this
  exact this
def S_X5_howMany : MSpec := fun a σ Q => match a with
  | [.inr (.inl 1)] => (∀ r, r < 8 → -1 ≤ σ 4 r ∧ σ 4 r ≤ 40) ∧ Q (some (.inl (howM (σ 4) 8))) σ
  | _ => False
theorem rc_X5_howMany : ∀ a σ Q, S_X5_howMany a σ Q → ∃ (p : Nat) (r : List AV), a = .inr (.inl p) :: r ∧ p < 76 ∧ (SH p).1 = 4 ∧ (SH p).2.1 = 4 := by
  intro a σ Q h
  unfold S_X5_howMany at h
  split at h
  · exact ⟨1, _, rfl, by decide, rfl, rfl⟩
  · exact h.elim
def mT_X5_howMany (i : Nat) : Option (Nat × Bool × MSpec) := match i with
  | _ => none
theorem mT_X5_howMany_ok {l : Launch} {n : Nat} (hn : 0 ≤ n) : ∀ i e, mT_X5_howMany i = some e → mV l (rmOf n) RX5 i e := by
  intro i e h
  unfold mT_X5_howMany at h
  split at h
  · cases h
set_option maxHeartbeats 4000000 in
theorem ok_X5_howMany : ∀ l n, 0 ≤ n → ∀ a σ Q, S_X5_howMany a σ Q → AM l n yX5_howMany cX5_howMany 3 (some .int) a σ Q := by
  intro l n hn a σ Q hS
  unfold S_X5_howMany at hS
  split at hS
  rotate_left
  · exact hS.elim
  obtain ⟨r1, hq⟩ := hS
  refine am_ofF 1 cpX5 mT_X5_howMany (plainFor_of_name (by decide +kernel)) (rfl) (Nat.le_of_ble_eq_true rfl) (cpX5_ok) (mT_X5_howMany_ok hn) (fun K hK => ?_)
  have loop : ∀ (k i : Nat), i + k = 8 → K 4 [some (.inr (.inl 1)), some (.inl (howM (σ 4) i)), some (.inl (i : Int))] [] σ := by
    intro k
    induction k with
    | zero =>
      intro i hi
      refine hK (fun q => q == 4) 60 _ _ _ _ ?_
      simp only [↓wp, ↓stp, ilen, lnth, st1, st2, nolong, nohead, rnth, ↓gfX, ↓pfX, gfV, pfV, cpF, cpP, cndZ, ↓tgo, ↓tsw, ↓lsw, ↓ldI, ↓ldA, ↓ldL, ↓stI, ↓stA, ↓stL, ↓bin, ↓binD, ↓binL, ↓binDL, ↓una, ↓acV, ↓acK, ↓acpy, ↓inv, entL, nones, List.length_cons, List.length_nil, List.take, List.drop, List.reverse_cons, List.reverse_nil, List.nil_append, List.cons_append, Option.toList_some, Option.toList_none, Nat.reduceAdd, Nat.reduceSub, Nat.reduceLT, Nat.reduceEqDiff, Fin.isValue, aTL, aSZ, Int.toNat_natCast, hset_same, hset_o, hset_s, hset_row, ne_eq, Nat.reduceBEq, beq_self_eq_true, Fin.val_zero, Fin.val_one, fin0, fin1, fin2, fin3, Nat.le_refl, Nat.reduceLeDiff, Nat.zero_le, Int.reduceAdd, Int.reduceNeg, Int.reduceLE, Int.reduceLT, Int.reduceToNat, Int.reduceMul, Int.cast_ofNat_Int, Nat.reduceMod, ↓reduceIte, if_true, if_false, and_true, true_and, or_true, true_or, false_or, or_false, and_self, not_true_eq_false, not_false_eq_true, Bool.false_eq_true, reduceCtorEq, false_implies, true_implies, implies_true, and_false, false_and, dX5_howMany_0, dX5_howMany_1, dX5_howMany_2, dX5_howMany_3, dX5_howMany_4, dX5_howMany_5, dX5_howMany_7, dX5_howMany_10, dX5_howMany_11, dX5_howMany_12, dX5_howMany_15, dX5_howMany_16, dX5_howMany_17, dX5_howMany_18, dX5_howMany_21, dX5_howMany_22, dX5_howMany_25, dX5_howMany_26, dX5_howMany_27, dX5_howMany_28, dX5_howMany_31, dX5_howMany_34, dX5_howMany_35, cpX5, mT_X5_howMany, SHl_0, SHl_1, SHl_2, SHl_3, SHl_4, SHl_5, SHl_6, SHl_7, SHl_8, SHl_9, SHl_10, SHl_11, SHl_12, SHl_13, SHl_14, SHl_15, SHl_16, SHl_17, SHl_18, SHl_19, SHl_20, SHl_21, SHl_22, SHl_23, SHl_24, SHl_25, SHl_26, SHl_27, SHl_28, SHl_29, SHl_30, SHl_31, SHl_32, SHl_33, SHl_34, SHl_35, SHl_36, SHl_37, SHl_38, SHl_39, SHl_40, SHl_41, SHl_42, SHl_43, SHl_44, SHl_45, SHl_46, SHl_47, SHl_48, SHl_49, SHl_50, SHl_51, SHl_52, SHl_53, SHl_54, SHl_55, SHl_56, SHl_57]
      refine ⟨⟨by omega, by omega⟩, ⟨by omega, by omega⟩, fun q => ?_, fun q => by omega⟩
      rw [show i = 8 by omega]
      exact hq
    | succ k ih =>
      intro i hi
      have h1 := r1 i (by omega)
      have h2 := ih (i + 1) (by omega)
      refine hK (fun q => q == 4) 60 _ _ _ _ ?_
      simp only [↓wp, ↓stp, ilen, lnth, st1, st2, nolong, nohead, rnth, ↓gfX, ↓pfX, gfV, pfV, cpF, cpP, cndZ, ↓tgo, ↓tsw, ↓lsw, ↓ldI, ↓ldA, ↓ldL, ↓stI, ↓stA, ↓stL, ↓bin, ↓binD, ↓binL, ↓binDL, ↓una, ↓acV, ↓acK, ↓acpy, ↓inv, entL, nones, List.length_cons, List.length_nil, List.take, List.drop, List.reverse_cons, List.reverse_nil, List.nil_append, List.cons_append, Option.toList_some, Option.toList_none, Nat.reduceAdd, Nat.reduceSub, Nat.reduceLT, Nat.reduceEqDiff, Fin.isValue, aTL, aSZ, Int.toNat_natCast, hset_same, hset_o, hset_s, hset_row, ne_eq, Nat.reduceBEq, beq_self_eq_true, Fin.val_zero, Fin.val_one, fin0, fin1, fin2, fin3, Nat.le_refl, Nat.reduceLeDiff, Nat.zero_le, Int.reduceAdd, Int.reduceNeg, Int.reduceLE, Int.reduceLT, Int.reduceToNat, Int.reduceMul, Int.cast_ofNat_Int, Nat.reduceMod, ↓reduceIte, if_true, if_false, and_true, true_and, or_true, true_or, false_or, or_false, and_self, not_true_eq_false, not_false_eq_true, Bool.false_eq_true, reduceCtorEq, false_implies, true_implies, implies_true, and_false, false_and, dX5_howMany_0, dX5_howMany_1, dX5_howMany_2, dX5_howMany_3, dX5_howMany_4, dX5_howMany_5, dX5_howMany_7, dX5_howMany_10, dX5_howMany_11, dX5_howMany_12, dX5_howMany_15, dX5_howMany_16, dX5_howMany_17, dX5_howMany_18, dX5_howMany_21, dX5_howMany_22, dX5_howMany_25, dX5_howMany_26, dX5_howMany_27, dX5_howMany_28, dX5_howMany_31, dX5_howMany_34, dX5_howMany_35, cpX5, mT_X5_howMany, SHl_0, SHl_1, SHl_2, SHl_3, SHl_4, SHl_5, SHl_6, SHl_7, SHl_8, SHl_9, SHl_10, SHl_11, SHl_12, SHl_13, SHl_14, SHl_15, SHl_16, SHl_17, SHl_18, SHl_19, SHl_20, SHl_21, SHl_22, SHl_23, SHl_24, SHl_25, SHl_26, SHl_27, SHl_28, SHl_29, SHl_30, SHl_31, SHl_32, SHl_33, SHl_34, SHl_35, SHl_36, SHl_37, SHl_38, SHl_39, SHl_40, SHl_41, SHl_42, SHl_43, SHl_44, SHl_45, SHl_46, SHl_47, SHl_48, SHl_49, SHl_50, SHl_51, SHl_52, SHl_53, SHl_54, SHl_55, SHl_56, SHl_57]
      unfold howM at h2
      refine ⟨⟨by omega, by omega⟩, ⟨by omega, by omega⟩, fun q => by omega, fun q => ⟨by omega, by omega, ⟨by omega, by omega⟩, ⟨by omega, by omega⟩, fun z => ?_, fun z => ?_⟩⟩
      · rw [if_neg z] at h2
        exact h2
      · rw [if_pos (by omega)] at h2
        exact h2
  refine hK (fun q => q == 4) 60 _ _ _ _ ?_
  simp only [↓wp, ↓stp, ilen, lnth, st1, st2, nolong, nohead, rnth, ↓gfX, ↓pfX, gfV, pfV, cpF, cpP, cndZ, ↓tgo, ↓tsw, ↓lsw, ↓ldI, ↓ldA, ↓ldL, ↓stI, ↓stA, ↓stL, ↓bin, ↓binD, ↓binL, ↓binDL, ↓una, ↓acV, ↓acK, ↓acpy, ↓inv, entL, nones, List.length_cons, List.length_nil, List.take, List.drop, List.reverse_cons, List.reverse_nil, List.nil_append, List.cons_append, Option.toList_some, Option.toList_none, Nat.reduceAdd, Nat.reduceSub, Nat.reduceLT, Nat.reduceEqDiff, Fin.isValue, aTL, aSZ, Int.toNat_natCast, hset_same, hset_o, hset_s, hset_row, ne_eq, Nat.reduceBEq, beq_self_eq_true, Fin.val_zero, Fin.val_one, fin0, fin1, fin2, fin3, Nat.le_refl, Nat.reduceLeDiff, Nat.zero_le, Int.reduceAdd, Int.reduceNeg, Int.reduceLE, Int.reduceLT, Int.reduceToNat, Int.reduceMul, Int.cast_ofNat_Int, Nat.reduceMod, ↓reduceIte, if_true, if_false, and_true, true_and, or_true, true_or, false_or, or_false, and_self, not_true_eq_false, not_false_eq_true, Bool.false_eq_true, reduceCtorEq, false_implies, true_implies, implies_true, and_false, false_and, dX5_howMany_0, dX5_howMany_1, dX5_howMany_2, dX5_howMany_3, dX5_howMany_4, dX5_howMany_5, dX5_howMany_7, dX5_howMany_10, dX5_howMany_11, dX5_howMany_12, dX5_howMany_15, dX5_howMany_16, dX5_howMany_17, dX5_howMany_18, dX5_howMany_21, dX5_howMany_22, dX5_howMany_25, dX5_howMany_26, dX5_howMany_27, dX5_howMany_28, dX5_howMany_31, dX5_howMany_34, dX5_howMany_35, cpX5, mT_X5_howMany, SHl_0, SHl_1, SHl_2, SHl_3, SHl_4, SHl_5, SHl_6, SHl_7, SHl_8, SHl_9, SHl_10, SHl_11, SHl_12, SHl_13, SHl_14, SHl_15, SHl_16, SHl_17, SHl_18, SHl_19, SHl_20, SHl_21, SHl_22, SHl_23, SHl_24, SHl_25, SHl_26, SHl_27, SHl_28, SHl_29, SHl_30, SHl_31, SHl_32, SHl_33, SHl_34, SHl_35, SHl_36, SHl_37, SHl_38, SHl_39, SHl_40, SHl_41, SHl_42, SHl_43, SHl_44, SHl_45, SHl_46, SHl_47, SHl_48, SHl_49, SHl_50, SHl_51, SHl_52, SHl_53, SHl_54, SHl_55, SHl_56, SHl_57]
  exact loop 8 0 (by omega)
