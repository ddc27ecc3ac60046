/-! ===== names and prices of names ===== -/
def letZ (p : Int) : Int := (p + 1) % 7
def altZ (p : Int) : Int := (p + 1) / 7
def namZ (w k : Int) : Int := w + (7 * k - w) % 12
def prN (kd g pl : Int) : Int := if (kd = 2 ∧ 0 < altZ pl) ∨ (kd = 3 ∧ altZ pl < 0) then ((altZ pl - headV g (letZ pl)).natAbs : Int) else 2 * ((altZ pl - headV g (letZ pl)).natAbs : Int)
def stepZ (ph : Int) (a b : Int) : Int := if ph = 1 then ((a - b).natAbs : Int) / 2 else ((a - b).natAbs : Int)
def isPc (p : Nat) : Prop := SH p = (4, 3, [none, none, none, some (p + 1), some (p + 2), some (p + 3), some (p + 4), some (p + 5), some (p + 6)]) ∧ SH (p + 1) = (0, 10, []) ∧ SH (p + 2) = (0, 10, []) ∧ SH (p + 3) = (0, 10, []) ∧ SH (p + 4) = (0, 11, []) ∧ SH (p + 5) = (0, 40, []) ∧ SH (p + 6) = (0, 40, []) ∧ p + 6 < 76
theorem isPc.lt {p : Nat} (h : isPc p) : p < 76 := by
  have := h.2.2.2.2.2.2.2
  omega
theorem isPc_7 : isPc 7 := ⟨rfl, rfl, rfl, rfl, rfl, rfl, rfl, by decide⟩
theorem isPc_22 : isPc 22 := ⟨rfl, rfl, rfl, rfl, rfl, rfl, rfl, by decide⟩
theorem isPc_44 : isPc 44 := ⟨rfl, rfl, rfl, rfl, rfl, rfl, rfl, by decide⟩
theorem isPc_51 : isPc 51 := ⟨rfl, rfl, rfl, rfl, rfl, rfl, rfl, by decide⟩
def S_X4_sizeOf : MSpec := fun a σ Q => match a with
  | [.inr (.inl p), .inl c] => isPc p ∧ (0 ≤ c ∧ c < 10) ∧ Q (some (.inl (σ (p + 4) (c + 1).toNat - σ (p + 4) c.toNat))) σ
  | _ => False
theorem rc_X4_sizeOf : ∀ a σ Q, S_X4_sizeOf a σ Q → ∃ (p : Nat) (r : List AV), a = .inr (.inl p) :: r ∧ p < 76 ∧ (SH p).1 = 4 ∧ (SH p).2.1 = 3 := by
  intro a σ Q h
  unfold S_X4_sizeOf at h
  split at h
  · exact ⟨_, _, rfl, h.1.lt, by rw [h.1.1], by rw [h.1.1]⟩
  · exact h.elim
def mT_X4_sizeOf (i : Nat) : Option (Nat × Bool × MSpec) := match i with
  | _ => none
theorem mT_X4_sizeOf_ok {l : Launch} {n : Nat} (hn : 0 ≤ n) : ∀ i e, mT_X4_sizeOf i = some e → mV l (rmOf n) RX4 i e := by
  intro i e h
  unfold mT_X4_sizeOf at h
  split at h
  · cases h
set_option maxRecDepth 100000 in
set_option maxHeartbeats 4000000 in
theorem ok_X4_sizeOf : ∀ l n, 0 ≤ n → ∀ a σ Q, S_X4_sizeOf a σ Q → AM l n yX4_sizeOf cX4_sizeOf 2 (some .int) a σ Q := by
  intro l n hn a σ Q hS
  unfold S_X4_sizeOf at hS
  split at hS
  rotate_left
  · exact hS.elim
  rename_i p c
  obtain ⟨⟨k0, k1, k2, k3, k4, k5, k6, k7⟩, c1, hq⟩ := hS
  refine am_ofF 1 cpX4 mT_X4_sizeOf (plainFor_of_name (by decide +kernel)) (rfl) (Nat.le_of_ble_eq_true rfl) (cpX4_ok) (mT_X4_sizeOf_ok hn) (fun K hK => ?_)
  refine hK (fun _ => false) 200 _ _ _ _ ?_
  simp only [↓wp, ↓stp, ilen, lnth, st1, st2, nolong, nohead, rnth, ↓gfX, ↓pfX, gfV, pfV, cpF, cpP, cndZ, ↓tgo, ↓tsw, ↓lsw, ↓ldI, ↓ldA, ↓ldL, ↓stI, ↓stA, ↓stL, ↓bin, ↓binD, ↓binL, ↓binDL, ↓una, ↓acV, ↓acK, ↓acpy, ↓inv, entL, nones, List.length_cons, List.length_nil, List.take, List.drop, List.reverse_cons, List.reverse_nil, List.nil_append, List.cons_append, Option.toList_some, Option.toList_none, Nat.reduceAdd, Nat.reduceSub, Nat.reduceLT, Nat.reduceEqDiff, Fin.isValue, aTL, aSZ, Int.toNat_natCast, hset_same, hset_o, hset_s, hset_row, ne_eq, Nat.reduceBEq, beq_self_eq_true, Fin.val_zero, Fin.val_one, fin0, fin1, fin2, fin3, Nat.le_refl, Nat.reduceLeDiff, Nat.zero_le, Int.reduceAdd, Int.reduceNeg, Int.reduceLE, Int.reduceLT, Int.reduceToNat, Int.reduceMul, Int.cast_ofNat_Int, Nat.reduceMod, ↓reduceIte, if_true, if_false, and_true, true_and, or_true, true_or, false_or, or_false, and_self, not_true_eq_false, not_false_eq_true, Bool.false_eq_true, reduceCtorEq, false_implies, true_implies, implies_true, and_false, false_and, dX4_sizeOf_0, dX4_sizeOf_1, dX4_sizeOf_4, dX4_sizeOf_5, dX4_sizeOf_6, dX4_sizeOf_7, dX4_sizeOf_8, dX4_sizeOf_9, dX4_sizeOf_12, dX4_sizeOf_13, dX4_sizeOf_14, dX4_sizeOf_15, cpX4, mT_X4_sizeOf, SHl_0, SHl_1, SHl_2, SHl_3, SHl_4, SHl_5, SHl_6, SHl_7, SHl_8, SHl_9, SHl_10, SHl_11, SHl_12, SHl_13, SHl_14, SHl_15, SHl_16, SHl_17, SHl_18, SHl_19, SHl_20, SHl_21, SHl_22, SHl_23, SHl_24, SHl_25, SHl_26, SHl_27, SHl_28, SHl_29, SHl_30, SHl_31, SHl_32, SHl_33, SHl_34, SHl_35, SHl_36, SHl_37, SHl_38, SHl_39, SHl_40, SHl_41, SHl_42, SHl_43, SHl_44, SHl_45, SHl_46, SHl_47, SHl_48, SHl_49, SHl_50, SHl_51, SHl_52, SHl_53, SHl_54, SHl_55, SHl_56, SHl_57, k0, k1, k2, k3, k4, k5, k6]
  (repeat' (first | apply And.intro | intro _)) <;> first | omega | exact hq | (rw [if_pos (by omega)] at hq; exact hq) | (rw [if_neg (by omega)] at hq; exact hq) | (repeat (first | rw [if_pos (by omega)] at hq | rw [if_neg (by omega)] at hq)) <;> exact hq | assumption | exact R32_of _
def S_X4_staysWithin : MSpec := fun a σ Q => match a with
  | [.inr (.inl p), .inl c] => isPc p ∧ (0 ≤ c ∧ c < 10) ∧ (0 ≤ σ (p + 1) c.toNat ∧ σ (p + 1) c.toNat ≤ 5) ∧ Q (some (.inl (if 0 < c ∧ 4 ≤ σ (p + 1) c.toNat then 1 else 0))) σ
  | _ => False
theorem rc_X4_staysWithin : ∀ a σ Q, S_X4_staysWithin a σ Q → ∃ (p : Nat) (r : List AV), a = .inr (.inl p) :: r ∧ p < 76 ∧ (SH p).1 = 4 ∧ (SH p).2.1 = 3 := by
  intro a σ Q h
  unfold S_X4_staysWithin at h
  split at h
  · exact ⟨_, _, rfl, h.1.lt, by rw [h.1.1], by rw [h.1.1]⟩
  · exact h.elim
def mT_X4_staysWithin (i : Nat) : Option (Nat × Bool × MSpec) := match i with
  | _ => none
theorem mT_X4_staysWithin_ok {l : Launch} {n : Nat} (hn : 0 ≤ n) : ∀ i e, mT_X4_staysWithin i = some e → mV l (rmOf n) RX4 i e := by
  intro i e h
  unfold mT_X4_staysWithin at h
  split at h
  · cases h
set_option maxRecDepth 100000 in
set_option maxHeartbeats 4000000 in
theorem ok_X4_staysWithin : ∀ l n, 0 ≤ n → ∀ a σ Q, S_X4_staysWithin a σ Q → AM l n yX4_staysWithin cX4_staysWithin 2 (some .boolean) a σ Q := by
  intro l n hn a σ Q hS
  unfold S_X4_staysWithin at hS
  split at hS
  rotate_left
  · exact hS.elim
  rename_i p c
  obtain ⟨⟨k0, k1, k2, k3, k4, k5, k6, k7⟩, c1, c2, hq⟩ := hS
  refine am_ofF 2 cpX4 mT_X4_staysWithin (plainFor_of_name (by decide +kernel)) (rfl) (Nat.le_of_ble_eq_true rfl) (cpX4_ok) (mT_X4_staysWithin_ok hn) (fun K hK => ?_)
  refine hK (fun _ => false) 200 _ _ _ _ ?_
  simp only [↓wp, ↓stp, ilen, lnth, st1, st2, nolong, nohead, rnth, ↓gfX, ↓pfX, gfV, pfV, cpF, cpP, cndZ, ↓tgo, ↓tsw, ↓lsw, ↓ldI, ↓ldA, ↓ldL, ↓stI, ↓stA, ↓stL, ↓bin, ↓binD, ↓binL, ↓binDL, ↓una, ↓acV, ↓acK, ↓acpy, ↓inv, entL, nones, List.length_cons, List.length_nil, List.take, List.drop, List.reverse_cons, List.reverse_nil, List.nil_append, List.cons_append, Option.toList_some, Option.toList_none, Nat.reduceAdd, Nat.reduceSub, Nat.reduceLT, Nat.reduceEqDiff, Fin.isValue, aTL, aSZ, Int.toNat_natCast, hset_same, hset_o, hset_s, hset_row, ne_eq, Nat.reduceBEq, beq_self_eq_true, Fin.val_zero, Fin.val_one, fin0, fin1, fin2, fin3, Nat.le_refl, Nat.reduceLeDiff, Nat.zero_le, Int.reduceAdd, Int.reduceNeg, Int.reduceLE, Int.reduceLT, Int.reduceToNat, Int.reduceMul, Int.cast_ofNat_Int, Nat.reduceMod, ↓reduceIte, if_true, if_false, and_true, true_and, or_true, true_or, false_or, or_false, and_self, not_true_eq_false, not_false_eq_true, Bool.false_eq_true, reduceCtorEq, false_implies, true_implies, implies_true, and_false, false_and, dX4_staysWithin_0, dX4_staysWithin_1, dX4_staysWithin_4, dX4_staysWithin_5, dX4_staysWithin_8, dX4_staysWithin_9, dX4_staysWithin_10, dX4_staysWithin_11, dX4_staysWithin_14, dX4_staysWithin_15, dX4_staysWithin_18, dX4_staysWithin_19, dX4_staysWithin_20, dX4_staysWithin_21, dX4_staysWithin_24, dX4_staysWithin_25, dX4_staysWithin_28, dX4_staysWithin_29, cpX4, mT_X4_staysWithin, SHl_0, SHl_1, SHl_2, SHl_3, SHl_4, SHl_5, SHl_6, SHl_7, SHl_8, SHl_9, SHl_10, SHl_11, SHl_12, SHl_13, SHl_14, SHl_15, SHl_16, SHl_17, SHl_18, SHl_19, SHl_20, SHl_21, SHl_22, SHl_23, SHl_24, SHl_25, SHl_26, SHl_27, SHl_28, SHl_29, SHl_30, SHl_31, SHl_32, SHl_33, SHl_34, SHl_35, SHl_36, SHl_37, SHl_38, SHl_39, SHl_40, SHl_41, SHl_42, SHl_43, SHl_44, SHl_45, SHl_46, SHl_47, SHl_48, SHl_49, SHl_50, SHl_51, SHl_52, SHl_53, SHl_54, SHl_55, SHl_56, SHl_57, k0, k1, k2, k3, k4, k5, k6]
  (repeat' (first | apply And.intro | intro _)) <;> first | omega | exact hq | (rw [if_pos (by omega)] at hq; exact hq) | (rw [if_neg (by omega)] at hq; exact hq) | (repeat (first | rw [if_pos (by omega)] at hq | rw [if_neg (by omega)] at hq)) <;> exact hq | assumption | exact R32_of _
def S_X4_priceOfStep : MSpec := fun a σ Q => match a with
  | [.inr (.inl p), .inl c, .inl x, .inl y] => isPc p ∧ (0 ≤ c ∧ c < 10) ∧ (0 ≤ σ (p + 3) c.toNat ∧ σ (p + 3) c.toNat ≤ 1) ∧ (-15 ≤ x ∧ x ≤ 8) ∧ (-15 ≤ y ∧ y ≤ 8) ∧ Q (some (.inl (stepZ (σ (p + 3) c.toNat) x y))) σ
  | _ => False
theorem rc_X4_priceOfStep : ∀ a σ Q, S_X4_priceOfStep a σ Q → ∃ (p : Nat) (r : List AV), a = .inr (.inl p) :: r ∧ p < 76 ∧ (SH p).1 = 4 ∧ (SH p).2.1 = 3 := by
  intro a σ Q h
  unfold S_X4_priceOfStep at h
  split at h
  · exact ⟨_, _, rfl, h.1.lt, by rw [h.1.1], by rw [h.1.1]⟩
  · exact h.elim
def mT_X4_priceOfStep (i : Nat) : Option (Nat × Bool × MSpec) := match i with
  | 71 => some (1, false, S_J9_abs_0f7a4)
  | _ => none
theorem mT_X4_priceOfStep_ok {l : Launch} {n : Nat} (hn : 1 ≤ n) : ∀ i e, mT_X4_priceOfStep i = some e → mV l (rmOf n) RX4 i e := by
  intro i e h
  unfold mT_X4_priceOfStep at h
  split at h
  · cases h; exact mvS (lv := 0) mw_J9_abs_0f7a4 (by omega) (by decide) (by decide +kernel) (Or.inl (gtm 560 (by decide +kernel) (by decide +kernel))) ok_J9_abs_0f7a4
  · cases h
set_option maxRecDepth 100000 in
set_option maxHeartbeats 4000000 in
theorem ok_X4_priceOfStep : ∀ l n, 1 ≤ n → ∀ a σ Q, S_X4_priceOfStep a σ Q → AM l n yX4_priceOfStep cX4_priceOfStep 5 (some .int) a σ Q := by
  intro l n hn a σ Q hS
  unfold S_X4_priceOfStep at hS
  split at hS
  rotate_left
  · exact hS.elim
  rename_i p c x y
  obtain ⟨⟨k0, k1, k2, k3, k4, k5, k6, k7⟩, c1, c2, x1, y1, hq⟩ := hS
  refine am_ofF 1 cpX4 mT_X4_priceOfStep (plainFor_of_name (by decide +kernel)) (rfl) (Nat.le_of_ble_eq_true rfl) (cpX4_ok) (mT_X4_priceOfStep_ok hn) (fun K hK => ?_)
  refine hK (fun _ => false) 200 _ _ _ _ ?_
  simp only [↓wp, ↓stp, ilen, lnth, st1, st2, nolong, nohead, rnth, ↓gfX, ↓pfX, gfV, pfV, cpF, cpP, cndZ, ↓tgo, ↓tsw, ↓lsw, ↓ldI, ↓ldA, ↓ldL, ↓stI, ↓stA, ↓stL, ↓bin, ↓binD, ↓binL, ↓binDL, ↓una, ↓acV, ↓acK, ↓acpy, ↓inv, entL, nones, List.length_cons, List.length_nil, List.take, List.drop, List.reverse_cons, List.reverse_nil, List.nil_append, List.cons_append, Option.toList_some, Option.toList_none, Nat.reduceAdd, Nat.reduceSub, Nat.reduceLT, Nat.reduceEqDiff, Fin.isValue, aTL, aSZ, Int.toNat_natCast, hset_same, hset_o, hset_s, hset_row, ne_eq, Nat.reduceBEq, beq_self_eq_true, Fin.val_zero, Fin.val_one, fin0, fin1, fin2, fin3, Nat.le_refl, Nat.reduceLeDiff, Nat.zero_le, Int.reduceAdd, Int.reduceNeg, Int.reduceLE, Int.reduceLT, Int.reduceToNat, Int.reduceMul, Int.cast_ofNat_Int, Nat.reduceMod, ↓reduceIte, if_true, if_false, and_true, true_and, or_true, true_or, false_or, or_false, and_self, not_true_eq_false, not_false_eq_true, Bool.false_eq_true, reduceCtorEq, false_implies, true_implies, implies_true, and_false, false_and, dX4_priceOfStep_0, dX4_priceOfStep_1, dX4_priceOfStep_2, dX4_priceOfStep_3, dX4_priceOfStep_6, dX4_priceOfStep_8, dX4_priceOfStep_9, dX4_priceOfStep_12, dX4_priceOfStep_13, dX4_priceOfStep_14, dX4_priceOfStep_15, dX4_priceOfStep_18, dX4_priceOfStep_20, dX4_priceOfStep_21, dX4_priceOfStep_22, dX4_priceOfStep_25, dX4_priceOfStep_27, cpX4, mT_X4_priceOfStep, SHl_0, SHl_1, SHl_2, SHl_3, SHl_4, SHl_5, SHl_6, SHl_7, SHl_8, SHl_9, SHl_10, SHl_11, SHl_12, SHl_13, SHl_14, SHl_15, SHl_16, SHl_17, SHl_18, SHl_19, SHl_20, SHl_21, SHl_22, SHl_23, SHl_24, SHl_25, SHl_26, SHl_27, SHl_28, SHl_29, SHl_30, SHl_31, SHl_32, SHl_33, SHl_34, SHl_35, SHl_36, SHl_37, SHl_38, SHl_39, SHl_40, SHl_41, SHl_42, SHl_43, SHl_44, SHl_45, SHl_46, SHl_47, SHl_48, SHl_49, SHl_50, SHl_51, SHl_52, SHl_53, SHl_54, SHl_55, SHl_56, SHl_57, S_J9_abs_0f7a4, k0, k1, k2, k3, k4, k5, k6]
  unfold stepZ at hq
  have e1 : ((x - y).natAbs : Int).tdiv 2 = ((x - y).natAbs : Int) / 2 := Int.tdiv_eq_ediv_of_nonneg (by omega)
  simp only [e1]
  (repeat' (first | apply And.intro | intro _)) <;> first | omega | exact hq | (rw [if_pos (by omega)] at hq; exact hq) | (rw [if_neg (by omega)] at hq; exact hq) | (repeat (first | rw [if_pos (by omega)] at hq | rw [if_neg (by omega)] at hq)) <;> exact hq | assumption | exact R32_of _
def S_X4_priceOfName : MSpec := fun a σ Q => match a with
  | [.inl kd, .inl al, .inl hd] => (0 ≤ kd ∧ kd ≤ 5) ∧ (-100 ≤ al ∧ al ≤ 100) ∧ (-1 ≤ hd ∧ hd ≤ 1) ∧ Q (some (.inl (if (kd = 2 ∧ 0 < al) ∨ (kd = 3 ∧ al < 0) then ((al - hd).natAbs : Int) else 2 * ((al - hd).natAbs : Int)))) σ
  | _ => False
def mT_X4_priceOfName (i : Nat) : Option (Nat × Bool × MSpec) := match i with
  | 71 => some (1, false, S_J9_abs_0f7a4)
  | _ => none
theorem mT_X4_priceOfName_ok {l : Launch} {n : Nat} (hn : 1 ≤ n) : ∀ i e, mT_X4_priceOfName i = some e → mV l (rmOf n) RX4 i e := by
  intro i e h
  unfold mT_X4_priceOfName at h
  split at h
  · cases h; exact mvS (lv := 0) mw_J9_abs_0f7a4 (by omega) (by decide) (by decide +kernel) (Or.inl (gtm 560 (by decide +kernel) (by decide +kernel))) ok_J9_abs_0f7a4
  · cases h
set_option maxRecDepth 100000 in
set_option maxHeartbeats 4000000 in
theorem ok_X4_priceOfName : ∀ l n, 1 ≤ n → ∀ a σ Q, S_X4_priceOfName a σ Q → AM l n yX4_priceOfName cX4_priceOfName 5 (some .int) a σ Q := by
  intro l n hn a σ Q hS
  unfold S_X4_priceOfName at hS
  split at hS
  rotate_left
  · exact hS.elim
  rename_i kd al hd
  obtain ⟨k1, a1, h1, hq⟩ := hS
  refine am_ofF 1 cpX4 mT_X4_priceOfName (plainFor_of_name (by decide +kernel)) (rfl) (Nat.le_of_ble_eq_true rfl) (cpX4_ok) (mT_X4_priceOfName_ok hn) (fun K hK => ?_)
  refine hK (fun _ => false) 200 _ _ _ _ ?_
  simp only [↓wp, ↓stp, ilen, lnth, st1, st2, nolong, nohead, rnth, ↓gfX, ↓pfX, gfV, pfV, cpF, cpP, cndZ, ↓tgo, ↓tsw, ↓lsw, ↓ldI, ↓ldA, ↓ldL, ↓stI, ↓stA, ↓stL, ↓bin, ↓binD, ↓binL, ↓binDL, ↓una, ↓acV, ↓acK, ↓acpy, ↓inv, entL, nones, List.length_cons, List.length_nil, List.take, List.drop, List.reverse_cons, List.reverse_nil, List.nil_append, List.cons_append, Option.toList_some, Option.toList_none, Nat.reduceAdd, Nat.reduceSub, Nat.reduceLT, Nat.reduceEqDiff, Fin.isValue, aTL, aSZ, Int.toNat_natCast, hset_same, hset_o, hset_s, hset_row, ne_eq, Nat.reduceBEq, beq_self_eq_true, Fin.val_zero, Fin.val_one, fin0, fin1, fin2, fin3, Nat.le_refl, Nat.reduceLeDiff, Nat.zero_le, Int.reduceAdd, Int.reduceNeg, Int.reduceLE, Int.reduceLT, Int.reduceToNat, Int.reduceMul, Int.cast_ofNat_Int, Nat.reduceMod, ↓reduceIte, if_true, if_false, and_true, true_and, or_true, true_or, false_or, or_false, and_self, not_true_eq_false, not_false_eq_true, Bool.false_eq_true, reduceCtorEq, false_implies, true_implies, implies_true, and_false, false_and, dX4_priceOfName_0, dX4_priceOfName_1, dX4_priceOfName_2, dX4_priceOfName_3, dX4_priceOfName_6, dX4_priceOfName_7, dX4_priceOfName_8, dX4_priceOfName_9, dX4_priceOfName_12, dX4_priceOfName_13, dX4_priceOfName_16, dX4_priceOfName_17, dX4_priceOfName_18, dX4_priceOfName_21, dX4_priceOfName_22, dX4_priceOfName_25, dX4_priceOfName_26, dX4_priceOfName_29, dX4_priceOfName_30, dX4_priceOfName_32, dX4_priceOfName_34, dX4_priceOfName_37, dX4_priceOfName_38, dX4_priceOfName_41, dX4_priceOfName_42, dX4_priceOfName_43, dX4_priceOfName_44, cpX4, mT_X4_priceOfName, SHl_0, SHl_1, SHl_2, SHl_3, SHl_4, SHl_5, SHl_6, SHl_7, SHl_8, SHl_9, SHl_10, SHl_11, SHl_12, SHl_13, SHl_14, SHl_15, SHl_16, SHl_17, SHl_18, SHl_19, SHl_20, SHl_21, SHl_22, SHl_23, SHl_24, SHl_25, SHl_26, SHl_27, SHl_28, SHl_29, SHl_30, SHl_31, SHl_32, SHl_33, SHl_34, SHl_35, SHl_36, SHl_37, SHl_38, SHl_39, SHl_40, SHl_41, SHl_42, SHl_43, SHl_44, SHl_45, SHl_46, SHl_47, SHl_48, SHl_49, SHl_50, SHl_51, SHl_52, SHl_53, SHl_54, SHl_55, SHl_56, SHl_57, S_J9_abs_0f7a4]
  (repeat' (first | apply And.intro | intro _)) <;> first | omega | exact hq | (rw [if_pos (by omega)] at hq; exact hq) | (rw [if_neg (by omega)] at hq; exact hq) | (repeat (first | rw [if_pos (by omega)] at hq | rw [if_neg (by omega)] at hq)) <;> exact hq | assumption | exact R32_of _
def S_X8_over : MSpec := fun a σ Q => match a with
  | [.inl x, .inl y] => R32 x ∧ (y = 7 ∨ y = 12) ∧ Q (some (.inl (x % y))) σ
  | _ => False
def mT_X8_over (i : Nat) : Option (Nat × Bool × MSpec) := match i with
  | _ => none
theorem mT_X8_over_ok {l : Launch} {n : Nat} (hn : 0 ≤ n) : ∀ i e, mT_X8_over i = some e → mV l (rmOf n) RX8 i e := by
  intro i e h
  unfold mT_X8_over at h
  split at h
  · cases h
set_option maxRecDepth 100000 in
set_option maxHeartbeats 4000000 in
theorem ok_X8_over : ∀ l n, 0 ≤ n → ∀ a σ Q, S_X8_over a σ Q → AM l n yX8_over cX8_over 3 (some .int) a σ Q := by
  intro l n hn a σ Q hS
  unfold S_X8_over at hS
  split at hS
  rotate_left
  · exact hS.elim
  rename_i x y
  obtain ⟨r1, hy, hq⟩ := hS
  refine am_ofF 1 cpX8 mT_X8_over (plainFor_of_name (by decide +kernel)) (rfl) (Nat.le_of_ble_eq_true rfl) (cpX8_ok) (mT_X8_over_ok hn) (fun K hK => ?_)
  refine hK (fun _ => false) 200 _ _ _ _ ?_
  simp only [↓wp, ↓stp, ilen, lnth, st1, st2, nolong, nohead, rnth, ↓gfX, ↓pfX, gfV, pfV, cpF, cpP, cndZ, ↓tgo, ↓tsw, ↓lsw, ↓ldI, ↓ldA, ↓ldL, ↓stI, ↓stA, ↓stL, ↓bin, ↓binD, ↓binL, ↓binDL, ↓una, ↓acV, ↓acK, ↓acpy, ↓inv, entL, nones, List.length_cons, List.length_nil, List.take, List.drop, List.reverse_cons, List.reverse_nil, List.nil_append, List.cons_append, Option.toList_some, Option.toList_none, Nat.reduceAdd, Nat.reduceSub, Nat.reduceLT, Nat.reduceEqDiff, Fin.isValue, aTL, aSZ, Int.toNat_natCast, hset_same, hset_o, hset_s, hset_row, ne_eq, Nat.reduceBEq, beq_self_eq_true, Fin.val_zero, Fin.val_one, fin0, fin1, fin2, fin3, Nat.le_refl, Nat.reduceLeDiff, Nat.zero_le, Int.reduceAdd, Int.reduceNeg, Int.reduceLE, Int.reduceLT, Int.reduceToNat, Int.reduceMul, Int.cast_ofNat_Int, Nat.reduceMod, ↓reduceIte, if_true, if_false, and_true, true_and, or_true, true_or, false_or, or_false, and_self, not_true_eq_false, not_false_eq_true, Bool.false_eq_true, reduceCtorEq, false_implies, true_implies, implies_true, and_false, false_and, dX8_over_0, dX8_over_1, dX8_over_2, dX8_over_3, dX8_over_4, dX8_over_5, dX8_over_8, dX8_over_9, dX8_over_10, dX8_over_11, dX8_over_14, dX8_over_15, cpX8, mT_X8_over, SHl_58, SHl_59, SHl_60, SHl_61, SHl_62, SHl_63, SHl_64, SHl_65, SHl_66, SHl_67, SHl_68, SHl_69, SHl_70, SHl_71, SHl_72, SHl_73, SHl_74, SHl_75]
  have r2 : R32 y := ⟨by omega, by omega⟩
  have r3 : R32 (x.tmod y) := tmod_R32 r2 (by omega)
  obtain ⟨h2, h3⟩ := tmod_pos (x := x) (y := y) (by omega)
  have h4 := Int.lt_tmod_of_pos x (show 0 < y by omega)
  have h5 : 0 ≤ x → 0 ≤ x.tmod y := fun q => by rw [h2 q]; exact Int.emod_nonneg _ (by omega)
  have h6 : ¬ 0 ≤ x → x.tmod y ≤ 0 := fun q => by
    by_cases z : x.tmod y = 0
    · omega
    · have := (h3 q).2 z
      have := Int.emod_lt_of_pos x (show 0 < y by omega)
      omega
  refine ⟨r1, r2, by omega, r3, fun q => ?_, fun q => ?_⟩
  · by_cases hx : 0 ≤ x
    · rw [h2 hx]; exact hq
    · have h7 := h6 hx
      have h8 : x.tmod y = 0 := by omega
      rw [(h3 hx).1 h8]; exact hq
  · have hx : ¬ 0 ≤ x := fun z => q (h5 z)
    rw [(h3 hx).2 (by omega)]; exact hq
def S_X8_letterOf : MSpec := fun a σ Q => match a with
  | [.inl x] => (-100000 ≤ x ∧ x ≤ 100000) ∧ Q (some (.inl (letZ x))) σ
  | _ => False
def mT_X8_letterOf (i : Nat) : Option (Nat × Bool × MSpec) := match i with
  | 154 => some (2, false, S_X8_over)
  | _ => none
theorem mT_X8_letterOf_ok {l : Launch} {n : Nat} (hn : 1 ≤ n) : ∀ i e, mT_X8_letterOf i = some e → mV l (rmOf n) RX8 i e := by
  intro i e h
  unfold mT_X8_letterOf at h
  split at h
  · cases h; exact mvS (lv := 0) mw_X8_over (by omega) (by decide) (by decide +kernel) (Or.inl (gtm 952 (by decide +kernel) (by decide +kernel))) ok_X8_over
  · cases h
set_option maxRecDepth 100000 in
set_option maxHeartbeats 4000000 in
theorem ok_X8_letterOf : ∀ l n, 1 ≤ n → ∀ a σ Q, S_X8_letterOf a σ Q → AM l n yX8_letterOf cX8_letterOf 1 (some .int) a σ Q := by
  intro l n hn a σ Q hS
  unfold S_X8_letterOf at hS
  split at hS
  rotate_left
  · exact hS.elim
  rename_i x
  obtain ⟨r1, hq⟩ := hS
  refine am_ofF 1 cpX8 mT_X8_letterOf (plainFor_of_name (by decide +kernel)) (rfl) (Nat.le_of_ble_eq_true rfl) (cpX8_ok) (mT_X8_letterOf_ok hn) (fun K hK => ?_)
  refine hK (fun _ => false) 200 _ _ _ _ ?_
  simp only [↓wp, ↓stp, ilen, lnth, st1, st2, nolong, nohead, rnth, ↓gfX, ↓pfX, gfV, pfV, cpF, cpP, cndZ, ↓tgo, ↓tsw, ↓lsw, ↓ldI, ↓ldA, ↓ldL, ↓stI, ↓stA, ↓stL, ↓bin, ↓binD, ↓binL, ↓binDL, ↓una, ↓acV, ↓acK, ↓acpy, ↓inv, entL, nones, List.length_cons, List.length_nil, List.take, List.drop, List.reverse_cons, List.reverse_nil, List.nil_append, List.cons_append, Option.toList_some, Option.toList_none, Nat.reduceAdd, Nat.reduceSub, Nat.reduceLT, Nat.reduceEqDiff, Fin.isValue, aTL, aSZ, Int.toNat_natCast, hset_same, hset_o, hset_s, hset_row, ne_eq, Nat.reduceBEq, beq_self_eq_true, Fin.val_zero, Fin.val_one, fin0, fin1, fin2, fin3, Nat.le_refl, Nat.reduceLeDiff, Nat.zero_le, Int.reduceAdd, Int.reduceNeg, Int.reduceLE, Int.reduceLT, Int.reduceToNat, Int.reduceMul, Int.cast_ofNat_Int, Nat.reduceMod, ↓reduceIte, if_true, if_false, and_true, true_and, or_true, true_or, false_or, or_false, and_self, not_true_eq_false, not_false_eq_true, Bool.false_eq_true, reduceCtorEq, false_implies, true_implies, implies_true, and_false, false_and, dX8_letterOf_0, dX8_letterOf_1, dX8_letterOf_2, dX8_letterOf_3, dX8_letterOf_5, dX8_letterOf_8, cpX8, mT_X8_letterOf, SHl_58, SHl_59, SHl_60, SHl_61, SHl_62, SHl_63, SHl_64, SHl_65, SHl_66, SHl_67, SHl_68, SHl_69, SHl_70, SHl_71, SHl_72, SHl_73, SHl_74, SHl_75, S_X8_over]
  unfold letZ at hq
  (repeat' (first | apply And.intro | intro _)) <;> first | omega | exact hq | (rw [if_pos (by omega)] at hq; exact hq) | (rw [if_neg (by omega)] at hq; exact hq) | (repeat (first | rw [if_pos (by omega)] at hq | rw [if_neg (by omega)] at hq)) <;> exact hq | assumption | exact R32_of _
def S_X8_alterOf : MSpec := fun a σ Q => match a with
  | [.inl x] => (-100000 ≤ x ∧ x ≤ 100000) ∧ Q (some (.inl (altZ x))) σ
  | _ => False
def mT_X8_alterOf (i : Nat) : Option (Nat × Bool × MSpec) := match i with
  | 157 => some (1, false, S_X8_letterOf)
  | _ => none
theorem mT_X8_alterOf_ok {l : Launch} {n : Nat} (hn : 2 ≤ n) : ∀ i e, mT_X8_alterOf i = some e → mV l (rmOf n) RX8 i e := by
  intro i e h
  unfold mT_X8_alterOf at h
  split at h
  · cases h; exact mvS (lv := 1) mw_X8_letterOf (by omega) (by decide) (by decide +kernel) (Or.inl (gtm 963 (by decide +kernel) (by decide +kernel))) ok_X8_letterOf
  · cases h
set_option maxRecDepth 100000 in
set_option maxHeartbeats 4000000 in
theorem ok_X8_alterOf : ∀ l n, 2 ≤ n → ∀ a σ Q, S_X8_alterOf a σ Q → AM l n yX8_alterOf cX8_alterOf 1 (some .int) a σ Q := by
  intro l n hn a σ Q hS
  unfold S_X8_alterOf at hS
  split at hS
  rotate_left
  · exact hS.elim
  rename_i x
  obtain ⟨r1, hq⟩ := hS
  refine am_ofF 1 cpX8 mT_X8_alterOf (plainFor_of_name (by decide +kernel)) (rfl) (Nat.le_of_ble_eq_true rfl) (cpX8_ok) (mT_X8_alterOf_ok hn) (fun K hK => ?_)
  refine hK (fun _ => false) 200 _ _ _ _ ?_
  simp only [↓wp, ↓stp, ilen, lnth, st1, st2, nolong, nohead, rnth, ↓gfX, ↓pfX, gfV, pfV, cpF, cpP, cndZ, ↓tgo, ↓tsw, ↓lsw, ↓ldI, ↓ldA, ↓ldL, ↓stI, ↓stA, ↓stL, ↓bin, ↓binD, ↓binL, ↓binDL, ↓una, ↓acV, ↓acK, ↓acpy, ↓inv, entL, nones, List.length_cons, List.length_nil, List.take, List.drop, List.reverse_cons, List.reverse_nil, List.nil_append, List.cons_append, Option.toList_some, Option.toList_none, Nat.reduceAdd, Nat.reduceSub, Nat.reduceLT, Nat.reduceEqDiff, Fin.isValue, aTL, aSZ, Int.toNat_natCast, hset_same, hset_o, hset_s, hset_row, ne_eq, Nat.reduceBEq, beq_self_eq_true, Fin.val_zero, Fin.val_one, fin0, fin1, fin2, fin3, Nat.le_refl, Nat.reduceLeDiff, Nat.zero_le, Int.reduceAdd, Int.reduceNeg, Int.reduceLE, Int.reduceLT, Int.reduceToNat, Int.reduceMul, Int.cast_ofNat_Int, Nat.reduceMod, ↓reduceIte, if_true, if_false, and_true, true_and, or_true, true_or, false_or, or_false, and_self, not_true_eq_false, not_false_eq_true, Bool.false_eq_true, reduceCtorEq, false_implies, true_implies, implies_true, and_false, false_and, dX8_alterOf_0, dX8_alterOf_1, dX8_alterOf_2, dX8_alterOf_3, dX8_alterOf_4, dX8_alterOf_7, dX8_alterOf_8, dX8_alterOf_10, dX8_alterOf_11, cpX8, mT_X8_alterOf, SHl_58, SHl_59, SHl_60, SHl_61, SHl_62, SHl_63, SHl_64, SHl_65, SHl_66, SHl_67, SHl_68, SHl_69, SHl_70, SHl_71, SHl_72, SHl_73, SHl_74, SHl_75, S_X8_letterOf]
  unfold altZ at hq
  unfold letZ
  have e1 : (x + 1 - (x + 1) % 7).tdiv 7 = (x + 1) / 7 := by
    rw [Int.tdiv_eq_ediv_of_dvd (by omega)]
    omega
  rw [e1]
  (repeat' (first | apply And.intro | intro _)) <;> first | omega | exact hq | (rw [if_pos (by omega)] at hq; exact hq) | (rw [if_neg (by omega)] at hq; exact hq) | (repeat (first | rw [if_pos (by omega)] at hq | rw [if_neg (by omega)] at hq)) <;> exact hq | assumption | exact R32_of _
def S_X8_keyOf : MSpec := fun a σ Q => match a with
  | [.inl x] => (-100000 ≤ x ∧ x ≤ 100000) ∧ Q (some (.inl (7 * x % 12))) σ
  | _ => False
def mT_X8_keyOf (i : Nat) : Option (Nat × Bool × MSpec) := match i with
  | 154 => some (2, false, S_X8_over)
  | _ => none
theorem mT_X8_keyOf_ok {l : Launch} {n : Nat} (hn : 1 ≤ n) : ∀ i e, mT_X8_keyOf i = some e → mV l (rmOf n) RX8 i e := by
  intro i e h
  unfold mT_X8_keyOf at h
  split at h
  · cases h; exact mvS (lv := 0) mw_X8_over (by omega) (by decide) (by decide +kernel) (Or.inl (gtm 952 (by decide +kernel) (by decide +kernel))) ok_X8_over
  · cases h
set_option maxRecDepth 100000 in
set_option maxHeartbeats 4000000 in
theorem ok_X8_keyOf : ∀ l n, 1 ≤ n → ∀ a σ Q, S_X8_keyOf a σ Q → AM l n yX8_keyOf cX8_keyOf 1 (some .int) a σ Q := by
  intro l n hn a σ Q hS
  unfold S_X8_keyOf at hS
  split at hS
  rotate_left
  · exact hS.elim
  rename_i x
  obtain ⟨r1, hq⟩ := hS
  refine am_ofF 1 cpX8 mT_X8_keyOf (plainFor_of_name (by decide +kernel)) (rfl) (Nat.le_of_ble_eq_true rfl) (cpX8_ok) (mT_X8_keyOf_ok hn) (fun K hK => ?_)
  refine hK (fun _ => false) 200 _ _ _ _ ?_
  simp only [↓wp, ↓stp, ilen, lnth, st1, st2, nolong, nohead, rnth, ↓gfX, ↓pfX, gfV, pfV, cpF, cpP, cndZ, ↓tgo, ↓tsw, ↓lsw, ↓ldI, ↓ldA, ↓ldL, ↓stI, ↓stA, ↓stL, ↓bin, ↓binD, ↓binL, ↓binDL, ↓una, ↓acV, ↓acK, ↓acpy, ↓inv, entL, nones, List.length_cons, List.length_nil, List.take, List.drop, List.reverse_cons, List.reverse_nil, List.nil_append, List.cons_append, Option.toList_some, Option.toList_none, Nat.reduceAdd, Nat.reduceSub, Nat.reduceLT, Nat.reduceEqDiff, Fin.isValue, aTL, aSZ, Int.toNat_natCast, hset_same, hset_o, hset_s, hset_row, ne_eq, Nat.reduceBEq, beq_self_eq_true, Fin.val_zero, Fin.val_one, fin0, fin1, fin2, fin3, Nat.le_refl, Nat.reduceLeDiff, Nat.zero_le, Int.reduceAdd, Int.reduceNeg, Int.reduceLE, Int.reduceLT, Int.reduceToNat, Int.reduceMul, Int.cast_ofNat_Int, Nat.reduceMod, ↓reduceIte, if_true, if_false, and_true, true_and, or_true, true_or, false_or, or_false, and_self, not_true_eq_false, not_false_eq_true, Bool.false_eq_true, reduceCtorEq, false_implies, true_implies, implies_true, and_false, false_and, dX8_keyOf_0, dX8_keyOf_2, dX8_keyOf_3, dX8_keyOf_4, dX8_keyOf_6, dX8_keyOf_9, cpX8, mT_X8_keyOf, SHl_58, SHl_59, SHl_60, SHl_61, SHl_62, SHl_63, SHl_64, SHl_65, SHl_66, SHl_67, SHl_68, SHl_69, SHl_70, SHl_71, SHl_72, SHl_73, SHl_74, SHl_75, S_X8_over]
  (repeat' (first | apply And.intro | intro _)) <;> first | omega | exact hq | (rw [if_pos (by omega)] at hq; exact hq) | (rw [if_neg (by omega)] at hq; exact hq) | (repeat (first | rw [if_pos (by omega)] at hq | rw [if_neg (by omega)] at hq)) <;> exact hq | assumption | exact R32_of _
def S_X8_nameOf : MSpec := fun a σ Q => match a with
  | [.inl w, .inl k] => (-100000 ≤ w ∧ w ≤ 10000) ∧ (0 ≤ k ∧ k < 12) ∧ Q (some (.inl (namZ w k))) σ
  | _ => False
def mT_X8_nameOf (i : Nat) : Option (Nat × Bool × MSpec) := match i with
  | 160 => some (1, false, S_X8_keyOf)
  | _ => none
theorem mT_X8_nameOf_ok {l : Launch} {n : Nat} (hn : 2 ≤ n) : ∀ i e, mT_X8_nameOf i = some e → mV l (rmOf n) RX8 i e := by
  intro i e h
  unfold mT_X8_nameOf at h
  split at h
  · cases h; exact mvS (lv := 1) mw_X8_keyOf (by omega) (by decide) (by decide +kernel) (Or.inl (gtm 969 (by decide +kernel) (by decide +kernel))) ok_X8_keyOf
  · cases h
set_option maxHeartbeats 4000000 in
theorem ok_X8_nameOf : ∀ l n, 2 ≤ n → ∀ a σ Q, S_X8_nameOf a σ Q → AM l n yX8_nameOf cX8_nameOf 3 (some .int) a σ Q := by
  intro l n hn a σ Q hS
  unfold S_X8_nameOf at hS
  split at hS
  rotate_left
  · exact hS.elim
  rename_i w k
  obtain ⟨w1, k1, hq⟩ := hS
  refine am_ofF 1 cpX8 mT_X8_nameOf (plainFor_of_name (by decide +kernel)) (rfl) (Nat.le_of_ble_eq_true rfl) (cpX8_ok) (mT_X8_nameOf_ok hn) (fun K hK => ?_)
  have loop : ∀ (d : Nat) (p : Int), w ≤ p → p + d = namZ w k → K 2 [some (.inl w), some (.inl k), some (.inl p)] [] σ := by
    intro d
    unfold namZ at hq ⊢
    induction d with
    | zero =>
      intro p h1 h2
      refine hK (fun q => q == 2) 60 _ _ _ _ ?_
      simp only [↓wp, ↓stp, ilen, lnth, st1, st2, nolong, nohead, rnth, ↓gfX, ↓pfX, gfV, pfV, cpF, cpP, cndZ, ↓tgo, ↓tsw, ↓lsw, ↓ldI, ↓ldA, ↓ldL, ↓stI, ↓stA, ↓stL, ↓bin, ↓binD, ↓binL, ↓binDL, ↓una, ↓acV, ↓acK, ↓acpy, ↓inv, entL, nones, List.length_cons, List.length_nil, List.take, List.drop, List.reverse_cons, List.reverse_nil, List.nil_append, List.cons_append, Option.toList_some, Option.toList_none, Nat.reduceAdd, Nat.reduceSub, Nat.reduceLT, Nat.reduceEqDiff, Fin.isValue, aTL, aSZ, Int.toNat_natCast, hset_same, hset_o, hset_s, hset_row, ne_eq, Nat.reduceBEq, beq_self_eq_true, Fin.val_zero, Fin.val_one, fin0, fin1, fin2, fin3, Nat.le_refl, Nat.reduceLeDiff, Nat.zero_le, Int.reduceAdd, Int.reduceNeg, Int.reduceLE, Int.reduceLT, Int.reduceToNat, Int.reduceMul, Int.cast_ofNat_Int, Nat.reduceMod, ↓reduceIte, if_true, if_false, and_true, true_and, or_true, true_or, false_or, or_false, and_self, not_true_eq_false, not_false_eq_true, Bool.false_eq_true, reduceCtorEq, false_implies, true_implies, implies_true, and_false, false_and, dX8_nameOf_0, dX8_nameOf_1, dX8_nameOf_2, dX8_nameOf_3, dX8_nameOf_6, dX8_nameOf_7, dX8_nameOf_10, dX8_nameOf_13, dX8_nameOf_16, dX8_nameOf_17, cpX8, mT_X8_nameOf, SHl_58, SHl_59, SHl_60, SHl_61, SHl_62, SHl_63, SHl_64, SHl_65, SHl_66, SHl_67, SHl_68, SHl_69, SHl_70, SHl_71, SHl_72, SHl_73, SHl_74, SHl_75, S_X8_keyOf]
      refine ⟨⟨by omega, by omega⟩, ⟨by omega, by omega⟩, ⟨by omega, by omega⟩, fun q => ?_, fun q => by omega⟩
      rw [show p = w + (7 * k - w) % 12 by omega]
      exact hq
    | succ d ih =>
      intro p h1 h2
      refine hK (fun q => q == 2) 60 _ _ _ _ ?_
      simp only [↓wp, ↓stp, ilen, lnth, st1, st2, nolong, nohead, rnth, ↓gfX, ↓pfX, gfV, pfV, cpF, cpP, cndZ, ↓tgo, ↓tsw, ↓lsw, ↓ldI, ↓ldA, ↓ldL, ↓stI, ↓stA, ↓stL, ↓bin, ↓binD, ↓binL, ↓binDL, ↓una, ↓acV, ↓acK, ↓acpy, ↓inv, entL, nones, List.length_cons, List.length_nil, List.take, List.drop, List.reverse_cons, List.reverse_nil, List.nil_append, List.cons_append, Option.toList_some, Option.toList_none, Nat.reduceAdd, Nat.reduceSub, Nat.reduceLT, Nat.reduceEqDiff, Fin.isValue, aTL, aSZ, Int.toNat_natCast, hset_same, hset_o, hset_s, hset_row, ne_eq, Nat.reduceBEq, beq_self_eq_true, Fin.val_zero, Fin.val_one, fin0, fin1, fin2, fin3, Nat.le_refl, Nat.reduceLeDiff, Nat.zero_le, Int.reduceAdd, Int.reduceNeg, Int.reduceLE, Int.reduceLT, Int.reduceToNat, Int.reduceMul, Int.cast_ofNat_Int, Nat.reduceMod, ↓reduceIte, if_true, if_false, and_true, true_and, or_true, true_or, false_or, or_false, and_self, not_true_eq_false, not_false_eq_true, Bool.false_eq_true, reduceCtorEq, false_implies, true_implies, implies_true, and_false, false_and, dX8_nameOf_0, dX8_nameOf_1, dX8_nameOf_2, dX8_nameOf_3, dX8_nameOf_6, dX8_nameOf_7, dX8_nameOf_10, dX8_nameOf_13, dX8_nameOf_16, dX8_nameOf_17, cpX8, mT_X8_nameOf, SHl_58, SHl_59, SHl_60, SHl_61, SHl_62, SHl_63, SHl_64, SHl_65, SHl_66, SHl_67, SHl_68, SHl_69, SHl_70, SHl_71, SHl_72, SHl_73, SHl_74, SHl_75, S_X8_keyOf]
      exact ⟨⟨by omega, by omega⟩, ⟨by omega, by omega⟩, ⟨by omega, by omega⟩, fun q => by omega, fun q => ih (p + 1) (by omega) (by omega)⟩
  refine hK (fun q => q == 2) 60 _ _ _ _ ?_
  simp only [↓wp, ↓stp, ilen, lnth, st1, st2, nolong, nohead, rnth, ↓gfX, ↓pfX, gfV, pfV, cpF, cpP, cndZ, ↓tgo, ↓tsw, ↓lsw, ↓ldI, ↓ldA, ↓ldL, ↓stI, ↓stA, ↓stL, ↓bin, ↓binD, ↓binL, ↓binDL, ↓una, ↓acV, ↓acK, ↓acpy, ↓inv, entL, nones, List.length_cons, List.length_nil, List.take, List.drop, List.reverse_cons, List.reverse_nil, List.nil_append, List.cons_append, Option.toList_some, Option.toList_none, Nat.reduceAdd, Nat.reduceSub, Nat.reduceLT, Nat.reduceEqDiff, Fin.isValue, aTL, aSZ, Int.toNat_natCast, hset_same, hset_o, hset_s, hset_row, ne_eq, Nat.reduceBEq, beq_self_eq_true, Fin.val_zero, Fin.val_one, fin0, fin1, fin2, fin3, Nat.le_refl, Nat.reduceLeDiff, Nat.zero_le, Int.reduceAdd, Int.reduceNeg, Int.reduceLE, Int.reduceLT, Int.reduceToNat, Int.reduceMul, Int.cast_ofNat_Int, Nat.reduceMod, ↓reduceIte, if_true, if_false, and_true, true_and, or_true, true_or, false_or, or_false, and_self, not_true_eq_false, not_false_eq_true, Bool.false_eq_true, reduceCtorEq, false_implies, true_implies, implies_true, and_false, false_and, dX8_nameOf_0, dX8_nameOf_1, dX8_nameOf_2, dX8_nameOf_3, dX8_nameOf_6, dX8_nameOf_7, dX8_nameOf_10, dX8_nameOf_13, dX8_nameOf_16, dX8_nameOf_17, cpX8, mT_X8_nameOf, SHl_58, SHl_59, SHl_60, SHl_61, SHl_62, SHl_63, SHl_64, SHl_65, SHl_66, SHl_67, SHl_68, SHl_69, SHl_70, SHl_71, SHl_72, SHl_73, SHl_74, SHl_75, S_X8_keyOf]
  exact loop (namZ w k - w).toNat w (by omega) (by unfold namZ; omega)
def isW (w : Nat) : Prop := SH w = (0, 93, []) ∧ w < 76
theorem isW_64 : isW 64 := ⟨rfl, by decide⟩
theorem isW_65 : isW 65 := ⟨rfl, by decide⟩
theorem isW_66 : isW 66 := ⟨rfl, by decide⟩
def S_X8_headOf : MSpec := fun a σ Q => match a with
  | [.inr (.inl w), .inl t] => isW w ∧ (0 ≤ σ w 0 ∧ σ w 0 ≤ 14) ∧ (0 ≤ t ∧ t ≤ 6) ∧ Q (some (.inl (headV (σ w 0) t))) σ
  | _ => False
def mT_X8_headOf (i : Nat) : Option (Nat × Bool × MSpec) := match i with
  | _ => none
theorem mT_X8_headOf_ok {l : Launch} {n : Nat} (hn : 0 ≤ n) : ∀ i e, mT_X8_headOf i = some e → mV l (rmOf n) RX8 i e := by
  intro i e h
  unfold mT_X8_headOf at h
  split at h
  · cases h
set_option maxRecDepth 100000 in
set_option maxHeartbeats 4000000 in
theorem ok_X8_headOf : ∀ l n, 0 ≤ n → ∀ a σ Q, S_X8_headOf a σ Q → AM l n yX8_headOf cX8_headOf 3 (some .int) a σ Q := by
  intro l n hn a σ Q hS
  unfold S_X8_headOf at hS
  split at hS
  rotate_left
  · exact hS.elim
  rename_i w t
  obtain ⟨⟨k0, k1⟩, g1, t1, hq⟩ := hS
  refine am_ofF 1 cpX8 mT_X8_headOf (plainFor_of_name (by decide +kernel)) (rfl) (Nat.le_of_ble_eq_true rfl) (cpX8_ok) (mT_X8_headOf_ok hn) (fun K hK => ?_)
  refine hK (fun _ => false) 200 _ _ _ _ ?_
  simp only [↓wp, ↓stp, ilen, lnth, st1, st2, nolong, nohead, rnth, ↓gfX, ↓pfX, gfV, pfV, cpF, cpP, cndZ, ↓tgo, ↓tsw, ↓lsw, ↓ldI, ↓ldA, ↓ldL, ↓stI, ↓stA, ↓stL, ↓bin, ↓binD, ↓binL, ↓binDL, ↓una, ↓acV, ↓acK, ↓acpy, ↓inv, entL, nones, List.length_cons, List.length_nil, List.take, List.drop, List.reverse_cons, List.reverse_nil, List.nil_append, List.cons_append, Option.toList_some, Option.toList_none, Nat.reduceAdd, Nat.reduceSub, Nat.reduceLT, Nat.reduceEqDiff, Fin.isValue, aTL, aSZ, Int.toNat_natCast, hset_same, hset_o, hset_s, hset_row, ne_eq, Nat.reduceBEq, beq_self_eq_true, Fin.val_zero, Fin.val_one, fin0, fin1, fin2, fin3, Nat.le_refl, Nat.reduceLeDiff, Nat.zero_le, Int.reduceAdd, Int.reduceNeg, Int.reduceLE, Int.reduceLT, Int.reduceToNat, Int.reduceMul, Int.cast_ofNat_Int, Nat.reduceMod, ↓reduceIte, if_true, if_false, and_true, true_and, or_true, true_or, false_or, or_false, and_self, not_true_eq_false, not_false_eq_true, Bool.false_eq_true, reduceCtorEq, false_implies, true_implies, implies_true, and_false, false_and, dX8_headOf_0, dX8_headOf_1, dX8_headOf_2, dX8_headOf_3, dX8_headOf_5, dX8_headOf_6, dX8_headOf_7, dX8_headOf_8, dX8_headOf_9, dX8_headOf_12, dX8_headOf_13, dX8_headOf_16, dX8_headOf_17, dX8_headOf_19, dX8_headOf_20, dX8_headOf_21, dX8_headOf_24, dX8_headOf_25, dX8_headOf_28, dX8_headOf_29, cpX8, mT_X8_headOf, SHl_58, SHl_59, SHl_60, SHl_61, SHl_62, SHl_63, SHl_64, SHl_65, SHl_66, SHl_67, SHl_68, SHl_69, SHl_70, SHl_71, SHl_72, SHl_73, SHl_74, SHl_75, k0]
  unfold headV at hq
  (repeat' (first | apply And.intro | intro _)) <;> first | omega | exact hq | (rw [if_pos (by omega)] at hq; exact hq) | (rw [if_neg (by omega)] at hq; exact hq) | (repeat (first | rw [if_pos (by omega)] at hq | rw [if_neg (by omega)] at hq)) <;> exact hq | assumption | exact R32_of _
def S_X8_isHeld : MSpec := fun a σ Q => match a with
  | [.inr (.inl w), .inl c] => isW w ∧ (0 ≤ c ∧ c < 10) ∧ (0 ≤ σ w (3 + 5 * c).toNat ∧ σ w (3 + 5 * c).toNat ≤ 5) ∧ Q (some (.inl (if 4 ≤ σ w (3 + 5 * c).toNat then 1 else 0))) σ
  | _ => False
def mT_X8_isHeld (i : Nat) : Option (Nat × Bool × MSpec) := match i with
  | _ => none
theorem mT_X8_isHeld_ok {l : Launch} {n : Nat} (hn : 0 ≤ n) : ∀ i e, mT_X8_isHeld i = some e → mV l (rmOf n) RX8 i e := by
  intro i e h
  unfold mT_X8_isHeld at h
  split at h
  · cases h
set_option maxRecDepth 100000 in
set_option maxHeartbeats 4000000 in
theorem ok_X8_isHeld : ∀ l n, 0 ≤ n → ∀ a σ Q, S_X8_isHeld a σ Q → AM l n yX8_isHeld cX8_isHeld 2 (some .boolean) a σ Q := by
  intro l n hn a σ Q hS
  unfold S_X8_isHeld at hS
  split at hS
  rotate_left
  · exact hS.elim
  rename_i w c
  obtain ⟨⟨k0, k1⟩, c1, c2, hq⟩ := hS
  refine am_ofF 2 cpX8 mT_X8_isHeld (plainFor_of_name (by decide +kernel)) (rfl) (Nat.le_of_ble_eq_true rfl) (cpX8_ok) (mT_X8_isHeld_ok hn) (fun K hK => ?_)
  refine hK (fun _ => false) 200 _ _ _ _ ?_
  simp only [↓wp, ↓stp, ilen, lnth, st1, st2, nolong, nohead, rnth, ↓gfX, ↓pfX, gfV, pfV, cpF, cpP, cndZ, ↓tgo, ↓tsw, ↓lsw, ↓ldI, ↓ldA, ↓ldL, ↓stI, ↓stA, ↓stL, ↓bin, ↓binD, ↓binL, ↓binDL, ↓una, ↓acV, ↓acK, ↓acpy, ↓inv, entL, nones, List.length_cons, List.length_nil, List.take, List.drop, List.reverse_cons, List.reverse_nil, List.nil_append, List.cons_append, Option.toList_some, Option.toList_none, Nat.reduceAdd, Nat.reduceSub, Nat.reduceLT, Nat.reduceEqDiff, Fin.isValue, aTL, aSZ, Int.toNat_natCast, hset_same, hset_o, hset_s, hset_row, ne_eq, Nat.reduceBEq, beq_self_eq_true, Fin.val_zero, Fin.val_one, fin0, fin1, fin2, fin3, Nat.le_refl, Nat.reduceLeDiff, Nat.zero_le, Int.reduceAdd, Int.reduceNeg, Int.reduceLE, Int.reduceLT, Int.reduceToNat, Int.reduceMul, Int.cast_ofNat_Int, Nat.reduceMod, ↓reduceIte, if_true, if_false, and_true, true_and, or_true, true_or, false_or, or_false, and_self, not_true_eq_false, not_false_eq_true, Bool.false_eq_true, reduceCtorEq, false_implies, true_implies, implies_true, and_false, false_and, dX8_isHeld_0, dX8_isHeld_1, dX8_isHeld_2, dX8_isHeld_3, dX8_isHeld_4, dX8_isHeld_5, dX8_isHeld_6, dX8_isHeld_7, dX8_isHeld_8, dX8_isHeld_11, dX8_isHeld_12, dX8_isHeld_15, dX8_isHeld_16, cpX8, mT_X8_isHeld, SHl_58, SHl_59, SHl_60, SHl_61, SHl_62, SHl_63, SHl_64, SHl_65, SHl_66, SHl_67, SHl_68, SHl_69, SHl_70, SHl_71, SHl_72, SHl_73, SHl_74, SHl_75, k0]
  (repeat' (first | apply And.intro | intro _)) <;> first | omega | exact hq | (rw [if_pos (by omega)] at hq; exact hq) | (rw [if_neg (by omega)] at hq; exact hq) | (repeat (first | rw [if_pos (by omega)] at hq | rw [if_neg (by omega)] at hq)) <;> exact hq | assumption | exact R32_of _
def S_X8_nameIn : MSpec := fun a σ Q => match a with
  | [.inr (.inl w), .inl c, .inl j, .inl x] => isW w ∧ (0 ≤ c ∧ c < 10) ∧ (0 ≤ j ∧ 0 ≤ σ w (3 + 5 * c + 1).toNat ∧ σ w (3 + 5 * c + 1).toNat + j < 40) ∧ (-15 ≤ x ∧ x ≤ 8) ∧ (0 ≤ σ w (53 + σ w (3 + 5 * c + 1).toNat + j).toNat ∧ σ w (53 + σ w (3 + 5 * c + 1).toNat + j).toNat < 12) ∧ Q (some (.inl (namZ x (σ w (53 + σ w (3 + 5 * c + 1).toNat + j).toNat)))) σ
  | _ => False
def mT_X8_nameIn (i : Nat) : Option (Nat × Bool × MSpec) := match i with
  | 163 => some (2, false, S_X8_nameOf)
  | _ => none
theorem mT_X8_nameIn_ok {l : Launch} {n : Nat} (hn : 3 ≤ n) : ∀ i e, mT_X8_nameIn i = some e → mV l (rmOf n) RX8 i e := by
  intro i e h
  unfold mT_X8_nameIn at h
  split at h
  · cases h; exact mvS (lv := 2) mw_X8_nameOf (by omega) (by decide) (by decide +kernel) (Or.inl (gtm 979 (by decide +kernel) (by decide +kernel))) ok_X8_nameOf
  · cases h
set_option maxRecDepth 100000 in
set_option maxHeartbeats 4000000 in
theorem ok_X8_nameIn : ∀ l n, 3 ≤ n → ∀ a σ Q, S_X8_nameIn a σ Q → AM l n yX8_nameIn cX8_nameIn 4 (some .int) a σ Q := by
  intro l n hn a σ Q hS
  unfold S_X8_nameIn at hS
  split at hS
  rotate_left
  · exact hS.elim
  rename_i w c j x
  obtain ⟨⟨k0, k1⟩, c1, j1, x1, e1, hq⟩ := hS
  refine am_ofF 1 cpX8 mT_X8_nameIn (plainFor_of_name (by decide +kernel)) (rfl) (Nat.le_of_ble_eq_true rfl) (cpX8_ok) (mT_X8_nameIn_ok hn) (fun K hK => ?_)
  refine hK (fun _ => false) 200 _ _ _ _ ?_
  simp only [↓wp, ↓stp, ilen, lnth, st1, st2, nolong, nohead, rnth, ↓gfX, ↓pfX, gfV, pfV, cpF, cpP, cndZ, ↓tgo, ↓tsw, ↓lsw, ↓ldI, ↓ldA, ↓ldL, ↓stI, ↓stA, ↓stL, ↓bin, ↓binD, ↓binL, ↓binDL, ↓una, ↓acV, ↓acK, ↓acpy, ↓inv, entL, nones, List.length_cons, List.length_nil, List.take, List.drop, List.reverse_cons, List.reverse_nil, List.nil_append, List.cons_append, Option.toList_some, Option.toList_none, Nat.reduceAdd, Nat.reduceSub, Nat.reduceLT, Nat.reduceEqDiff, Fin.isValue, aTL, aSZ, Int.toNat_natCast, hset_same, hset_o, hset_s, hset_row, ne_eq, Nat.reduceBEq, beq_self_eq_true, Fin.val_zero, Fin.val_one, fin0, fin1, fin2, fin3, Nat.le_refl, Nat.reduceLeDiff, Nat.zero_le, Int.reduceAdd, Int.reduceNeg, Int.reduceLE, Int.reduceLT, Int.reduceToNat, Int.reduceMul, Int.cast_ofNat_Int, Nat.reduceMod, ↓reduceIte, if_true, if_false, and_true, true_and, or_true, true_or, false_or, or_false, and_self, not_true_eq_false, not_false_eq_true, Bool.false_eq_true, reduceCtorEq, false_implies, true_implies, implies_true, and_false, false_and, dX8_nameIn_0, dX8_nameIn_1, dX8_nameIn_2, dX8_nameIn_4, dX8_nameIn_5, dX8_nameIn_6, dX8_nameIn_7, dX8_nameIn_8, dX8_nameIn_9, dX8_nameIn_10, dX8_nameIn_11, dX8_nameIn_12, dX8_nameIn_13, dX8_nameIn_14, dX8_nameIn_15, dX8_nameIn_16, dX8_nameIn_17, dX8_nameIn_20, cpX8, mT_X8_nameIn, SHl_58, SHl_59, SHl_60, SHl_61, SHl_62, SHl_63, SHl_64, SHl_65, SHl_66, SHl_67, SHl_68, SHl_69, SHl_70, SHl_71, SHl_72, SHl_73, SHl_74, SHl_75, S_X8_nameOf, k0]
  (repeat' (first | apply And.intro | intro _)) <;> first | omega | exact hq | (rw [if_pos (by omega)] at hq; exact hq) | (rw [if_neg (by omega)] at hq; exact hq) | (repeat (first | rw [if_pos (by omega)] at hq | rw [if_neg (by omega)] at hq)) <;> exact hq | assumption | exact R32_of _
def S_X8_moveTo : MSpec := fun a σ Q => match a with
  | [.inr (.inl w), .inl c, .inl x, .inl y] => isW w ∧ (0 ≤ c ∧ c < 10) ∧ (0 ≤ σ w (3 + 5 * c).toNat ∧ σ w (3 + 5 * c).toNat ≤ 5) ∧ (0 ≤ σ w (3 + 5 * c + 4).toNat ∧ σ w (3 + 5 * c + 4).toNat ≤ 1) ∧ R32 x ∧ (-15 ≤ x ∧ x ≤ 1000) ∧ R32 y ∧ (-2147480000 ≤ y ∧ y ≤ 2147480000) ∧ Q (some (.inl (if 4 ≤ σ w (3 + 5 * c).toNat ∧ x ≠ y then -1000000 else stepZ (σ w (3 + 5 * c + 4).toNat) x y))) σ
  | _ => False
def mT_X8_moveTo (i : Nat) : Option (Nat × Bool × MSpec) := match i with
  | 173 => some (1, false, S_X8_size)
  | 184 => some (2, false, S_X8_isHeld)
  | _ => none
theorem mT_X8_moveTo_ok {l : Launch} {n : Nat} (hn : 1 ≤ n) : ∀ i e, mT_X8_moveTo i = some e → mV l (rmOf n) RX8 i e := by
  intro i e h
  unfold mT_X8_moveTo at h
  split at h
  · cases h; exact mvS (lv := 0) mw_X8_size (by omega) (by decide) (by decide +kernel) (Or.inl (gtm 1012 (by decide +kernel) (by decide +kernel))) ok_X8_size
  · cases h; exact mvS (lv := 0) mw_X8_isHeld (by omega) (by decide) (by decide +kernel) (Or.inl (gtm 1015 (by decide +kernel) (by decide +kernel))) ok_X8_isHeld
  · cases h
set_option maxRecDepth 100000 in
set_option maxHeartbeats 4000000 in
theorem ok_X8_moveTo : ∀ l n, 1 ≤ n → ∀ a σ Q, S_X8_moveTo a σ Q → AM l n yX8_moveTo cX8_moveTo 5 (some .int) a σ Q := by
  intro l n hn a σ Q hS
  unfold S_X8_moveTo at hS
  split at hS
  rotate_left
  · exact hS.elim
  rename_i w c x y
  obtain ⟨⟨k0, k1⟩, c1, c2, c3, ⟨x1, x2⟩, x3, ⟨y1, y2⟩, y3, hq⟩ := hS
  refine am_ofF 1 cpX8 mT_X8_moveTo (plainFor_of_name (by decide +kernel)) (rfl) (Nat.le_of_ble_eq_true rfl) (cpX8_ok) (mT_X8_moveTo_ok hn) (fun K hK => ?_)
  refine hK (fun _ => false) 200 _ _ _ _ ?_
  simp only [↓wp, ↓stp, ilen, lnth, st1, st2, nolong, nohead, rnth, ↓gfX, ↓pfX, gfV, pfV, cpF, cpP, cndZ, ↓tgo, ↓tsw, ↓lsw, ↓ldI, ↓ldA, ↓ldL, ↓stI, ↓stA, ↓stL, ↓bin, ↓binD, ↓binL, ↓binDL, ↓una, ↓acV, ↓acK, ↓acpy, ↓inv, entL, nones, List.length_cons, List.length_nil, List.take, List.drop, List.reverse_cons, List.reverse_nil, List.nil_append, List.cons_append, Option.toList_some, Option.toList_none, Nat.reduceAdd, Nat.reduceSub, Nat.reduceLT, Nat.reduceEqDiff, Fin.isValue, aTL, aSZ, Int.toNat_natCast, hset_same, hset_o, hset_s, hset_row, ne_eq, Nat.reduceBEq, beq_self_eq_true, Fin.val_zero, Fin.val_one, fin0, fin1, fin2, fin3, Nat.le_refl, Nat.reduceLeDiff, Nat.zero_le, Int.reduceAdd, Int.reduceNeg, Int.reduceLE, Int.reduceLT, Int.reduceToNat, Int.reduceMul, Int.cast_ofNat_Int, Nat.reduceMod, ↓reduceIte, if_true, if_false, and_true, true_and, or_true, true_or, false_or, or_false, and_self, not_true_eq_false, not_false_eq_true, Bool.false_eq_true, reduceCtorEq, false_implies, true_implies, implies_true, and_false, false_and, dX8_moveTo_0, dX8_moveTo_1, dX8_moveTo_2, dX8_moveTo_3, dX8_moveTo_6, dX8_moveTo_8, dX8_moveTo_9, dX8_moveTo_10, dX8_moveTo_13, dX8_moveTo_16, dX8_moveTo_18, dX8_moveTo_21, dX8_moveTo_23, dX8_moveTo_26, dX8_moveTo_27, dX8_moveTo_28, dX8_moveTo_29, dX8_moveTo_30, dX8_moveTo_31, dX8_moveTo_32, dX8_moveTo_33, dX8_moveTo_34, dX8_moveTo_35, dX8_moveTo_36, dX8_moveTo_39, dX8_moveTo_41, dX8_moveTo_42, dX8_moveTo_43, dX8_moveTo_46, dX8_moveTo_48, cpX8, mT_X8_moveTo, SHl_58, SHl_59, SHl_60, SHl_61, SHl_62, SHl_63, SHl_64, SHl_65, SHl_66, SHl_67, SHl_68, SHl_69, SHl_70, SHl_71, SHl_72, SHl_73, SHl_74, SHl_75, S_X8_isHeld, S_X8_size, k0]
  unfold stepZ at hq
  have e1 : ((x - y).natAbs : Int).tdiv 2 = ((x - y).natAbs : Int) / 2 := Int.tdiv_eq_ediv_of_nonneg (by omega)
  simp only [e1]
  (repeat' (first | apply And.intro | intro _)) <;> first | omega | exact hq | (rw [if_pos (by omega)] at hq; exact hq) | (rw [if_neg (by omega)] at hq; exact hq) | (repeat (first | rw [if_pos (by omega)] at hq | rw [if_neg (by omega)] at hq)) <;> exact hq | assumption | exact R32_of _
