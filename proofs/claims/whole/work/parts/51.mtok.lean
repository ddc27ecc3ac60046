/-! ===== the reference: tokens ===== -/
def rtk (σ : HP) : Prop := (0 ≤ σ 58 6 ∧ σ 58 6 ≤ 130) ∧ ∀ j : Nat, j < 130 → 0 ≤ σ 63 j ∧ σ 63 j ≤ 255
def rL (σ : HP) : Nat := (σ 58 6).toNat
def rfT (t : Int) : Int := if t = -1 then 0 else if t = -3 then 2 else if t = -2 then 5 else if t = 44 then 3 else if t = 59 then 4 else 1
/-- the token at p is read -/
def ldP (B : Nat → Int) (L : Nat) (τ : HP) (p : Nat) : Prop := p ≤ L ∧ τ 58 10 = p ∧ τ 58 11 = rfT (tkT B L p) ∧ (tkT B L p = -3 → τ 58 12 = tkV B L p) ∧ (0 ≤ tkT B L p → τ 58 12 = tkT B L p) ∧ (-100000 ≤ τ 58 12 ∧ τ 58 12 ≤ 100000) ∧ (tkT B L p ≠ -2 → tkT B L p ≠ -1 → τ 58 9 = ((p + tkW B L p : Nat) : Int))
def adP (σ τ : HP) : Prop := only σ τ (fun q => q = 58) ∧ ∀ j, j < 9 ∨ 12 < j → τ 58 j = σ 58 j
theorem adP_tr {σ τ ρ : HP} (h : adP σ τ) (h' : adP τ ρ) : adP σ ρ := ⟨fun q hq => (h'.1 q hq).trans (h.1 q hq), fun j hj => (h'.2 j hj).trans (h.2 j hj)⟩
theorem adP_k {σ τ : HP} (h : adP σ τ) : τ 63 = σ 63 ∧ rL τ = rL σ ∧ τ 58 8 = σ 58 8 ∧ τ 58 7 = σ 58 7 ∧ (rtk σ → rtk τ) := by
  have e1 : τ 63 = σ 63 := h.1 63 (by decide)
  have e2 : τ 58 6 = σ 58 6 := h.2 6 (by omega)
  refine ⟨e1, ?_, h.2 8 (by omega), h.2 7 (by omega), fun hr => ?_⟩
  · unfold rL; rw [e2]
  · unfold rtk at hr ⊢; rw [e1, e2]; exact hr
def S_X8_byteAt : MSpec := fun a σ Q => match a with
  | [.inr (.inl 58), .inl k] => rtk σ ∧ (0 ≤ k ∧ k ≤ 140) ∧ Q (some (.inl (if k < σ 58 6 then σ 63 k.toNat else -1))) σ
  | _ => False
theorem rc_X8_byteAt : ∀ a σ Q, S_X8_byteAt a σ Q → ∃ (p : Nat) (r : List AV), a = .inr (.inl p) :: r ∧ p < 76 ∧ (SH p).1 = 4 ∧ (SH p).2.1 = 7 := by
  intro a σ Q h
  unfold S_X8_byteAt at h
  split at h
  · exact ⟨58, _, rfl, by decide, rfl, rfl⟩
  · exact h.elim
def mT_X8_byteAt (i : Nat) : Option (Nat × Bool × MSpec) := match i with
  | _ => none
theorem mT_X8_byteAt_ok {l : Launch} {n : Nat} (hn : 0 ≤ n) : ∀ i e, mT_X8_byteAt i = some e → mV l (rmOf n) RX8 i e := by
  intro i e h
  unfold mT_X8_byteAt at h
  split at h
  · cases h
set_option maxRecDepth 100000 in
set_option maxHeartbeats 4000000 in
theorem ok_X8_byteAt : ∀ l n, 0 ≤ n → ∀ a σ Q, S_X8_byteAt a σ Q → AM l n yX8_byteAt cX8_byteAt 2 (some .int) a σ Q := by
  intro l n hn a σ Q hS
  unfold S_X8_byteAt at hS
  split at hS
  rotate_left
  · exact hS.elim
  rename_i k
  obtain ⟨⟨h1, h2⟩, h3, hq⟩ := hS
  refine am_ofF 1 cpX8 mT_X8_byteAt (plainFor_of_name (by decide +kernel)) (rfl) (Nat.le_of_ble_eq_true rfl) (cpX8_ok) (mT_X8_byteAt_ok hn) (fun K hK => ?_)
  refine hK (fun _ => false) 200 _ _ _ _ ?_
  simp only [↓wp, ↓stp, ilen, lnth, st1, st2, nolong, nohead, rnth, ↓gfX, ↓pfX, gfV, pfV, cpF, cpP, cndZ, ↓tgo, ↓tsw, ↓lsw, ↓ldI, ↓ldA, ↓ldL, ↓stI, ↓stA, ↓stL, ↓bin, ↓binD, ↓binL, ↓binDL, ↓una, ↓acV, ↓acK, ↓acpy, ↓inv, entL, nones, List.length_cons, List.length_nil, List.take, List.drop, List.reverse_cons, List.reverse_nil, List.nil_append, List.cons_append, Option.toList_some, Option.toList_none, Nat.reduceAdd, Nat.reduceSub, Nat.reduceLT, Nat.reduceEqDiff, Fin.isValue, aTL, aSZ, Int.toNat_natCast, hset_same, hset_o, hset_s, hset_row, ne_eq, Nat.reduceBEq, beq_self_eq_true, Fin.val_zero, Fin.val_one, fin0, fin1, fin2, fin3, Nat.le_refl, Nat.reduceLeDiff, Nat.zero_le, Int.reduceAdd, Int.reduceNeg, Int.reduceLE, Int.reduceLT, Int.reduceToNat, Int.reduceMul, Int.cast_ofNat_Int, Nat.reduceMod, ↓reduceIte, if_true, if_false, and_true, true_and, or_true, true_or, false_or, or_false, and_self, not_true_eq_false, not_false_eq_true, Bool.false_eq_true, reduceCtorEq, false_implies, true_implies, implies_true, and_false, false_and, dX8_byteAt_0, dX8_byteAt_1, dX8_byteAt_2, dX8_byteAt_5, dX8_byteAt_8, dX8_byteAt_9, dX8_byteAt_12, dX8_byteAt_13, dX8_byteAt_14, dX8_byteAt_17, dX8_byteAt_18, cpX8, mT_X8_byteAt, SHl_58, SHl_59, SHl_60, SHl_61, SHl_62, SHl_63, SHl_64, SHl_65, SHl_66, SHl_67, SHl_68, SHl_69, SHl_70, SHl_71, SHl_72, SHl_73, SHl_74, SHl_75]
  (repeat' (first | apply And.intro | intro _)) <;> first | omega | exact hq | (rw [if_pos (by omega)] at hq; exact hq) | (rw [if_neg (by omega)] at hq; exact hq) | (repeat (first | rw [if_pos (by omega)] at hq | rw [if_neg (by omega)] at hq)) <;> exact hq | assumption | exact R32_of _
def S_X8_isWell : MSpec := fun a σ Q => match a with
  | [.inr (.inl 58)] => R32 (σ 58 8) ∧ Q (some (.inl (if σ 58 8 < 0 then 1 else 0))) σ
  | _ => False
theorem rc_X8_isWell : ∀ a σ Q, S_X8_isWell a σ Q → ∃ (p : Nat) (r : List AV), a = .inr (.inl p) :: r ∧ p < 76 ∧ (SH p).1 = 4 ∧ (SH p).2.1 = 7 := by
  intro a σ Q h
  unfold S_X8_isWell at h
  split at h
  · exact ⟨58, _, rfl, by decide, rfl, rfl⟩
  · exact h.elim
def mT_X8_isWell (i : Nat) : Option (Nat × Bool × MSpec) := match i with
  | _ => none
theorem mT_X8_isWell_ok {l : Launch} {n : Nat} (hn : 0 ≤ n) : ∀ i e, mT_X8_isWell i = some e → mV l (rmOf n) RX8 i e := by
  intro i e h
  unfold mT_X8_isWell at h
  split at h
  · cases h
set_option maxRecDepth 100000 in
set_option maxHeartbeats 4000000 in
theorem ok_X8_isWell : ∀ l n, 0 ≤ n → ∀ a σ Q, S_X8_isWell a σ Q → AM l n yX8_isWell cX8_isWell 1 (some .boolean) a σ Q := by
  intro l n hn a σ Q hS
  unfold S_X8_isWell at hS
  split at hS
  rotate_left
  · exact hS.elim
  obtain ⟨⟨h1, h2⟩, hq⟩ := hS
  refine am_ofF 2 cpX8 mT_X8_isWell (plainFor_of_name (by decide +kernel)) (rfl) (Nat.le_of_ble_eq_true rfl) (cpX8_ok) (mT_X8_isWell_ok hn) (fun K hK => ?_)
  refine hK (fun _ => false) 200 _ _ _ _ ?_
  simp only [↓wp, ↓stp, ilen, lnth, st1, st2, nolong, nohead, rnth, ↓gfX, ↓pfX, gfV, pfV, cpF, cpP, cndZ, ↓tgo, ↓tsw, ↓lsw, ↓ldI, ↓ldA, ↓ldL, ↓stI, ↓stA, ↓stL, ↓bin, ↓binD, ↓binL, ↓binDL, ↓una, ↓acV, ↓acK, ↓acpy, ↓inv, entL, nones, List.length_cons, List.length_nil, List.take, List.drop, List.reverse_cons, List.reverse_nil, List.nil_append, List.cons_append, Option.toList_some, Option.toList_none, Nat.reduceAdd, Nat.reduceSub, Nat.reduceLT, Nat.reduceEqDiff, Fin.isValue, aTL, aSZ, Int.toNat_natCast, hset_same, hset_o, hset_s, hset_row, ne_eq, Nat.reduceBEq, beq_self_eq_true, Fin.val_zero, Fin.val_one, fin0, fin1, fin2, fin3, Nat.le_refl, Nat.reduceLeDiff, Nat.zero_le, Int.reduceAdd, Int.reduceNeg, Int.reduceLE, Int.reduceLT, Int.reduceToNat, Int.reduceMul, Int.cast_ofNat_Int, Nat.reduceMod, ↓reduceIte, if_true, if_false, and_true, true_and, or_true, true_or, false_or, or_false, and_self, not_true_eq_false, not_false_eq_true, Bool.false_eq_true, reduceCtorEq, false_implies, true_implies, implies_true, and_false, false_and, dX8_isWell_0, dX8_isWell_1, dX8_isWell_4, dX8_isWell_7, dX8_isWell_8, dX8_isWell_11, dX8_isWell_12, cpX8, mT_X8_isWell, SHl_58, SHl_59, SHl_60, SHl_61, SHl_62, SHl_63, SHl_64, SHl_65, SHl_66, SHl_67, SHl_68, SHl_69, SHl_70, SHl_71, SHl_72, SHl_73, SHl_74, SHl_75]
  (repeat' (first | apply And.intro | intro _)) <;> first | omega | exact hq | (rw [if_pos (by omega)] at hq; exact hq) | (rw [if_neg (by omega)] at hq; exact hq) | (repeat (first | rw [if_pos (by omega)] at hq | rw [if_neg (by omega)] at hq)) <;> exact hq | assumption | exact R32_of _
def S_X8_kindOf : MSpec := fun a σ Q => match a with
  | [.inl c] => R32 c ∧ Q (some (.inl (kdZ c))) σ
  | _ => False
def mT_X8_kindOf (i : Nat) : Option (Nat × Bool × MSpec) := match i with
  | _ => none
theorem mT_X8_kindOf_ok {l : Launch} {n : Nat} (hn : 0 ≤ n) : ∀ i e, mT_X8_kindOf i = some e → mV l (rmOf n) RX8 i e := by
  intro i e h
  unfold mT_X8_kindOf at h
  split at h
  · cases h
set_option maxRecDepth 100000 in
set_option maxHeartbeats 4000000 in
theorem ok_X8_kindOf : ∀ l n, 0 ≤ n → ∀ a σ Q, S_X8_kindOf a σ Q → AM l n yX8_kindOf cX8_kindOf 1 (some .int) a σ Q := by
  intro l n hn a σ Q hS
  unfold S_X8_kindOf at hS
  split at hS
  rotate_left
  · exact hS.elim
  rename_i c
  obtain ⟨⟨c1, c2⟩, hq⟩ := hS
  refine am_ofF 1 cpX8 mT_X8_kindOf (plainFor_of_name (by decide +kernel)) (rfl) (Nat.le_of_ble_eq_true rfl) (cpX8_ok) (mT_X8_kindOf_ok hn) (fun K hK => ?_)
  refine hK (fun _ => false) 200 _ _ _ _ ?_
  simp only [↓wp, ↓stp, ilen, lnth, st1, st2, nolong, nohead, rnth, ↓gfX, ↓pfX, gfV, pfV, cpF, cpP, cndZ, ↓tgo, ↓tsw, ↓lsw, ↓ldI, ↓ldA, ↓ldL, ↓stI, ↓stA, ↓stL, ↓bin, ↓binD, ↓binL, ↓binDL, ↓una, ↓acV, ↓acK, ↓acpy, ↓inv, entL, nones, List.length_cons, List.length_nil, List.take, List.drop, List.reverse_cons, List.reverse_nil, List.nil_append, List.cons_append, Option.toList_some, Option.toList_none, Nat.reduceAdd, Nat.reduceSub, Nat.reduceLT, Nat.reduceEqDiff, Fin.isValue, aTL, aSZ, Int.toNat_natCast, hset_same, hset_o, hset_s, hset_row, ne_eq, Nat.reduceBEq, beq_self_eq_true, Fin.val_zero, Fin.val_one, fin0, fin1, fin2, fin3, Nat.le_refl, Nat.reduceLeDiff, Nat.zero_le, Int.reduceAdd, Int.reduceNeg, Int.reduceLE, Int.reduceLT, Int.reduceToNat, Int.reduceMul, Int.cast_ofNat_Int, Nat.reduceMod, ↓reduceIte, if_true, if_false, and_true, true_and, or_true, true_or, false_or, or_false, and_self, not_true_eq_false, not_false_eq_true, Bool.false_eq_true, reduceCtorEq, false_implies, true_implies, implies_true, and_false, false_and, dX8_kindOf_0, dX8_kindOf_1, dX8_kindOf_3, dX8_kindOf_6, dX8_kindOf_7, dX8_kindOf_10, dX8_kindOf_11, dX8_kindOf_13, dX8_kindOf_16, dX8_kindOf_17, dX8_kindOf_20, dX8_kindOf_21, dX8_kindOf_23, dX8_kindOf_26, dX8_kindOf_27, dX8_kindOf_30, dX8_kindOf_31, dX8_kindOf_33, dX8_kindOf_36, dX8_kindOf_37, dX8_kindOf_40, dX8_kindOf_41, dX8_kindOf_43, dX8_kindOf_46, dX8_kindOf_47, dX8_kindOf_50, dX8_kindOf_51, cpX8, mT_X8_kindOf, SHl_58, SHl_59, SHl_60, SHl_61, SHl_62, SHl_63, SHl_64, SHl_65, SHl_66, SHl_67, SHl_68, SHl_69, SHl_70, SHl_71, SHl_72, SHl_73, SHl_74, SHl_75]
  unfold kdZ at hq
  (repeat' (first | apply And.intro | intro _)) <;> first | omega | exact hq | (rw [if_pos (by omega)] at hq; exact hq) | (rw [if_neg (by omega)] at hq; exact hq) | (repeat (first | rw [if_pos (by omega)] at hq | rw [if_neg (by omega)] at hq)) <;> exact hq | assumption | exact R32_of _
def S_X8_isLetter : MSpec := fun a σ Q => match a with
  | [.inr (.inl 58), .inl c] => R32 (σ 58 8) ∧ R32 (σ 58 11) ∧ R32 (σ 58 12) ∧ R32 c ∧ Q (some (.inl (if σ 58 8 < 0 ∧ σ 58 11 = 1 ∧ σ 58 12 = c then 1 else 0))) σ
  | _ => False
theorem rc_X8_isLetter : ∀ a σ Q, S_X8_isLetter a σ Q → ∃ (p : Nat) (r : List AV), a = .inr (.inl p) :: r ∧ p < 76 ∧ (SH p).1 = 4 ∧ (SH p).2.1 = 7 := by
  intro a σ Q h
  unfold S_X8_isLetter at h
  split at h
  · exact ⟨58, _, rfl, by decide, rfl, rfl⟩
  · exact h.elim
def mT_X8_isLetter (i : Nat) : Option (Nat × Bool × MSpec) := match i with
  | 116 => some (1, true, S_X8_isWell)
  | _ => none
theorem mT_X8_isLetter_ok {l : Launch} {n : Nat} (hn : 1 ≤ n) : ∀ i e, mT_X8_isLetter i = some e → mV l (rmOf n) RX8 i e := by
  intro i e h
  unfold mT_X8_isLetter at h
  split at h
  · cases h; exact mvI (lv := 0) (ci := 7) (T := TX8) (N := 28) mw_X8_isWell rfl (by omega) (by decide) (by decide +kernel) (gtm 888 (by decide +kernel) (by decide +kernel)) rc_X8_isWell ok_X8_isWell
  · cases h
set_option maxRecDepth 100000 in
set_option maxHeartbeats 4000000 in
theorem ok_X8_isLetter : ∀ l n, 1 ≤ n → ∀ a σ Q, S_X8_isLetter a σ Q → AM l n yX8_isLetter cX8_isLetter 2 (some .boolean) a σ Q := by
  intro l n hn a σ Q hS
  unfold S_X8_isLetter at hS
  split at hS
  rotate_left
  · exact hS.elim
  rename_i c
  obtain ⟨⟨a1, a2⟩, ⟨b1, b2⟩, ⟨c1, c2⟩, ⟨d1, d2⟩, hq⟩ := hS
  refine am_ofF 2 cpX8 mT_X8_isLetter (plainFor_of_name (by decide +kernel)) (rfl) (Nat.le_of_ble_eq_true rfl) (cpX8_ok) (mT_X8_isLetter_ok hn) (fun K hK => ?_)
  refine hK (fun _ => false) 200 _ _ _ _ ?_
  simp only [↓wp, ↓stp, ilen, lnth, st1, st2, nolong, nohead, rnth, ↓gfX, ↓pfX, gfV, pfV, cpF, cpP, cndZ, ↓tgo, ↓tsw, ↓lsw, ↓ldI, ↓ldA, ↓ldL, ↓stI, ↓stA, ↓stL, ↓bin, ↓binD, ↓binL, ↓binDL, ↓una, ↓acV, ↓acK, ↓acpy, ↓inv, entL, nones, List.length_cons, List.length_nil, List.take, List.drop, List.reverse_cons, List.reverse_nil, List.nil_append, List.cons_append, Option.toList_some, Option.toList_none, Nat.reduceAdd, Nat.reduceSub, Nat.reduceLT, Nat.reduceEqDiff, Fin.isValue, aTL, aSZ, Int.toNat_natCast, hset_same, hset_o, hset_s, hset_row, ne_eq, Nat.reduceBEq, beq_self_eq_true, Fin.val_zero, Fin.val_one, fin0, fin1, fin2, fin3, Nat.le_refl, Nat.reduceLeDiff, Nat.zero_le, Int.reduceAdd, Int.reduceNeg, Int.reduceLE, Int.reduceLT, Int.reduceToNat, Int.reduceMul, Int.cast_ofNat_Int, Nat.reduceMod, ↓reduceIte, if_true, if_false, and_true, true_and, or_true, true_or, false_or, or_false, and_self, not_true_eq_false, not_false_eq_true, Bool.false_eq_true, reduceCtorEq, false_implies, true_implies, implies_true, and_false, false_and, dX8_isLetter_0, dX8_isLetter_1, dX8_isLetter_4, dX8_isLetter_7, dX8_isLetter_8, dX8_isLetter_11, dX8_isLetter_12, dX8_isLetter_15, dX8_isLetter_16, dX8_isLetter_19, dX8_isLetter_20, dX8_isLetter_23, dX8_isLetter_24, dX8_isLetter_27, dX8_isLetter_28, cpX8, mT_X8_isLetter, SHl_58, SHl_59, SHl_60, SHl_61, SHl_62, SHl_63, SHl_64, SHl_65, SHl_66, SHl_67, SHl_68, SHl_69, SHl_70, SHl_71, SHl_72, SHl_73, SHl_74, SHl_75, S_X8_isWell]
  (repeat' (first | apply And.intro | intro _)) <;> first | omega | exact hq | (rw [if_pos (by omega)] at hq; exact hq) | (rw [if_neg (by omega)] at hq; exact hq) | (repeat (first | rw [if_pos (by omega)] at hq | rw [if_neg (by omega)] at hq)) <;> exact hq | assumption | exact R32_of _
/-- the number so far -/
def vvZ (B : Nat → Int) (p i : Nat) : Int := if i = 0 then 0 else if i = 1 then B p - 48 else 10 * (B p - 48) + (B (p + 1) - 48)
def S_X8_advances : MSpec := fun a σ Q => match a with
  | [.inr (.inl 58)] => rtk σ ∧ (0 ≤ σ 58 9 ∧ σ 58 9 ≤ σ 58 6) ∧ ∀ τ, adP σ τ → ldP (σ 63) (rL σ) τ (σ 58 9).toNat → Q none τ
  | _ => False
theorem rc_X8_advances : ∀ a σ Q, S_X8_advances a σ Q → ∃ (p : Nat) (r : List AV), a = .inr (.inl p) :: r ∧ p < 76 ∧ (SH p).1 = 4 ∧ (SH p).2.1 = 7 := by
  intro a σ Q h
  unfold S_X8_advances at h
  split at h
  · exact ⟨58, _, rfl, by decide, rfl, rfl⟩
  · exact h.elim
def mT_X8_advances (i : Nat) : Option (Nat × Bool × MSpec) := match i with
  | 68 => some (3, false, S_X8_in)
  | 104 => some (2, true, S_X8_byteAt)
  | _ => none
theorem mT_X8_advances_ok {l : Launch} {n : Nat} (hn : 1 ≤ n) : ∀ i e, mT_X8_advances i = some e → mV l (rmOf n) RX8 i e := by
  intro i e h
  unfold mT_X8_advances at h
  split at h
  · cases h; exact mvS (lv := 0) mw_X8_in (by omega) (by decide) (by decide +kernel) (Or.inl (gtm 831 (by decide +kernel) (by decide +kernel))) ok_X8_in
  · cases h; exact mvI (lv := 0) (ci := 7) (T := TX8) (N := 28) mw_X8_byteAt rfl (by omega) (by decide) (by decide +kernel) (gtm 880 (by decide +kernel) (by decide +kernel)) rc_X8_byteAt ok_X8_byteAt
  · cases h
set_option maxRecDepth 100000 in
set_option maxHeartbeats 8000000 in
theorem ok_X8_advances : ∀ l n, 1 ≤ n → ∀ a σ Q, S_X8_advances a σ Q → AM l n yX8_advances cX8_advances 2 none a σ Q := by
  intro l n hn a σ Q hS
  unfold S_X8_advances at hS
  split at hS
  rotate_left
  · exact hS.elim
  obtain ⟨hT, ha, hq⟩ := hS
  obtain ⟨B, hB⟩ : ∃ B, B = σ 63 := ⟨_, rfl⟩
  obtain ⟨L, hL⟩ : ∃ L, L = rL σ := ⟨_, rfl⟩
  obtain ⟨p, hp⟩ : ∃ p : Nat, σ 58 9 = p := ⟨(σ 58 9).toNat, by omega⟩
  rw [← hB, ← hL, hp, Int.toNat_natCast] at hq
  obtain ⟨t1, t2⟩ := id hT
  have hL' : (L : Int) = σ 58 6 := by rw [hL]; unfold rL; omega
  have hpL : p ≤ L := by omega
  have hTn : ∀ ρ : HP, ρ 58 6 = σ 58 6 → ρ 63 = σ 63 → rtk ρ := fun ρ e1 e2 => by unfold rtk; rw [e1, e2]; exact hT
  have hBb : ∀ j : Nat, j < L → 0 ≤ B j ∧ B j ≤ 255 := fun j hj => by rw [hB]; exact t2 j (by omega)
  refine am_ofF 0 cpX8 mT_X8_advances (plainFor_of_name (by decide +kernel)) (rfl) (Nat.le_of_ble_eq_true rfl) (cpX8_ok) (mT_X8_advances_ok hn) (fun K hK => ?_)
  have loop : ∀ (n i : Nat) (τ : HP) (c : Int), p + i ≤ L → L - (p + i) < n → (∀ q, q < i → isDg B L (p + q)) → isDg B L p → adP σ τ → τ 58 10 = p → τ 58 9 = ((p + i : Nat) : Int) → τ 58 12 = vvZ B p i → K 38 [some (.inr (.inl 58)), some (.inl c)] [] τ := by
    intro n
    induction n with
    | zero => intro i τ c _ h; omega
    | succ n ih =>
      intro i τ c hi hn hdg hd0 had h10 h9 h12
      obtain ⟨e63, eL, -, -, hrt⟩ := adP_k had
      have hrt := hrt hT
      have e6 : τ 58 6 = σ 58 6 := had.2 6 (by omega)
      by_cases hd : isDg B L (p + i)
      · obtain ⟨d1, d2, d3⟩ := id hd
        have eb : (if ((p + i : Nat) : Int) < σ 58 6 then B ((p + i : Nat) : Int).toNat else -1) = B (p + i) := by rw [if_pos (by omega), Int.toNat_natCast]
        have nx : ∀ x, x = vvZ B p (i + 1) → K 38 [some (.inr (.inl 58)), some (.inl c)] [] (hset (hset τ 58 12 x) 58 9 (((p + i : Nat) : Int) + 1)) := by
          intro x hx
          have := ih (i + 1) (hset (hset τ 58 12 x) 58 9 (((p + i : Nat) : Int) + 1)) c (by omega) (by omega) (fun q hq => by
            by_cases hqi : q = i
            · subst hqi; exact hd
            · exact hdg q (by omega)) hd0 ⟨only_set (only_set had.1 rfl) rfl, fun j hj => by rw [hset_s (by omega), hset_s (by omega), had.2 j hj]⟩ (by rw [hset_s (by decide), hset_s (by decide), h10]) (by rw [hset_same]; omega) (by rw [hset_s (by decide), hset_same, hx])
          exact this
        refine hK (fun q => q == 38) 100 _ _ _ _ ?_
        simp only [↓wp, ↓stp, ilen, lnth, st1, st2, nolong, nohead, rnth, ↓gfX, ↓pfX, gfV, pfV, cpF, cpP, cndZ, ↓tgo, ↓tsw, ↓lsw, ↓ldI, ↓ldA, ↓ldL, ↓stI, ↓stA, ↓stL, ↓bin, ↓binD, ↓binL, ↓binDL, ↓una, ↓acV, ↓acK, ↓acpy, ↓inv, entL, nones, List.length_cons, List.length_nil, List.take, List.drop, List.reverse_cons, List.reverse_nil, List.nil_append, List.cons_append, Option.toList_some, Option.toList_none, Nat.reduceAdd, Nat.reduceSub, Nat.reduceLT, Nat.reduceEqDiff, Fin.isValue, aTL, aSZ, Int.toNat_natCast, hset_same, hset_o, hset_s, hset_row, ne_eq, Nat.reduceBEq, beq_self_eq_true, Fin.val_zero, Fin.val_one, fin0, fin1, fin2, fin3, Nat.le_refl, Nat.reduceLeDiff, Nat.zero_le, Int.reduceAdd, Int.reduceNeg, Int.reduceLE, Int.reduceLT, Int.reduceToNat, Int.reduceMul, Int.cast_ofNat_Int, Nat.reduceMod, ↓reduceIte, if_true, if_false, and_true, true_and, or_true, true_or, false_or, or_false, and_self, not_true_eq_false, not_false_eq_true, Bool.false_eq_true, reduceCtorEq, false_implies, true_implies, implies_true, and_false, false_and, dX8_advances_0, dX8_advances_1, dX8_advances_2, dX8_advances_5, dX8_advances_8, dX8_advances_9, dX8_advances_10, dX8_advances_13, dX8_advances_16, dX8_advances_17, dX8_advances_18, dX8_advances_19, dX8_advances_22, dX8_advances_23, dX8_advances_25, dX8_advances_27, dX8_advances_30, dX8_advances_33, dX8_advances_34, dX8_advances_35, dX8_advances_38, dX8_advances_39, dX8_advances_40, dX8_advances_43, dX8_advances_46, dX8_advances_48, dX8_advances_50, dX8_advances_53, dX8_advances_56, dX8_advances_57, dX8_advances_58, dX8_advances_61, dX8_advances_62, dX8_advances_65, dX8_advances_66, dX8_advances_67, dX8_advances_70, dX8_advances_72, dX8_advances_73, dX8_advances_76, dX8_advances_77, dX8_advances_78, dX8_advances_79, dX8_advances_82, dX8_advances_85, dX8_advances_86, dX8_advances_88, dX8_advances_89, dX8_advances_92, dX8_advances_93, dX8_advances_96, dX8_advances_99, dX8_advances_100, dX8_advances_101, dX8_advances_104, dX8_advances_105, dX8_advances_106, dX8_advances_109, dX8_advances_112, dX8_advances_113, dX8_advances_114, dX8_advances_117, dX8_advances_118, dX8_advances_121, dX8_advances_122, dX8_advances_123, dX8_advances_126, dX8_advances_127, dX8_advances_130, dX8_advances_131, dX8_advances_134, dX8_advances_135, dX8_advances_136, dX8_advances_137, dX8_advances_140, dX8_advances_141, dX8_advances_144, dX8_advances_145, dX8_advances_147, dX8_advances_149, dX8_advances_152, dX8_advances_155, dX8_advances_156, dX8_advances_159, dX8_advances_160, dX8_advances_162, dX8_advances_165, dX8_advances_166, dX8_advances_169, dX8_advances_170, dX8_advances_172, dX8_advances_175, dX8_advances_176, dX8_advances_179, dX8_advances_180, dX8_advances_183, dX8_advances_184, dX8_advances_185, dX8_advances_188, dX8_advances_189, dX8_advances_192, dX8_advances_195, dX8_advances_196, dX8_advances_199, dX8_advances_200, dX8_advances_201, dX8_advances_204, cpX8, mT_X8_advances, SHl_58, SHl_59, SHl_60, SHl_61, SHl_62, SHl_63, SHl_64, SHl_65, SHl_66, SHl_67, SHl_68, SHl_69, SHl_70, SHl_71, SHl_72, SHl_73, SHl_74, SHl_75, S_X8_byteAt, S_X8_in]
        rw [h9, e6, e63, ← hB, eb, h10, h12]
        refine ⟨hrt, by omega, ⟨by omega, by omega⟩, ⟨by decide, by decide⟩, ⟨by decide, by decide⟩, ?_, fun z => ?_, fun _ => ⟨?_, ?_, fun h2 => ?_, fun h2 => ⟨hrt, by omega, ?_⟩⟩⟩
        · split <;> exact ⟨by decide, by decide⟩
        · rw [if_pos ⟨d2, d3⟩] at z
          exact absurd z (by decide)
        · exact ⟨by omega, by omega⟩
        · exact ⟨by decide, by decide⟩
        · refine nx _ ?_
          unfold vvZ
          rw [if_neg (by omega), if_neg (by omega), if_neg (by omega), if_neg (by omega)]
        · refine nx _ ?_
          rcases (show i = 0 ∨ i = 1 by omega) with rfl | rfl
          · unfold vvZ
            simp
          · unfold vvZ
            simp
            omega
      · have i1 : 1 ≤ i := by
          rcases i with _ | i
          · exact absurd hd0 hd
          · omega
        have fin : ∀ t, t = (if i < 3 then (2 : Int) else 5) → Q none (hset τ 58 11 t) := by
          intro t ht
          refine hq _ ⟨only_set had.1 rfl, fun j hj => by rw [hset_s (by omega), had.2 j hj]⟩ ⟨hpL, by rw [hset_s (by decide), h10], ?_, ?_, ?_, ?_, ?_⟩
          all_goals
            have d0 := hdg 0 (by omega)
            rw [Nat.add_zero] at d0
            have T : tkT B L p = if isDg B L (p + 1) ∧ isDg B L (p + 2) then -2 else -3 := by
              unfold tkT
              rw [if_neg (by have := d0.1; omega), if_pos d0]
            by_cases h1 : i = 1
            · subst h1
              rw [if_neg (fun z => hd z.1)] at T
              rw [if_pos (by omega)] at ht
              unfold vvZ at h12
              simp only [T, rfT, tkV, tkW, if_neg hd, ht, hset_same]
              first | (simp; done) | (rw [hset_s (by decide), h12]; simp; done) | (rw [hset_s (by decide), h12]; obtain ⟨_, _, _⟩ := d0; simp; omega) | (rw [hset_s (by decide), h9]; simp [hd]; done)
            · by_cases h2 : i = 2
              · subst h2
                have d1 := hdg 1 (by omega)
                rw [if_neg (fun z => hd z.2)] at T
                rw [if_pos (by omega)] at ht
                unfold vvZ at h12
                simp only [T, rfT, tkV, tkW, if_pos d1, ht, hset_same]
                first | (simp; done) | (rw [hset_s (by decide), h12]; simp; done) | (rw [hset_s (by decide), h12]; obtain ⟨_, _, _⟩ := d0; obtain ⟨_, _, _⟩ := d1; simp; omega) | (rw [hset_s (by decide), h9, if_pos ⟨d0, d1⟩]; simp; done)
              · have d1 := hdg 1 (by omega)
                have d2 := hdg 2 (by omega)
                rw [if_pos ⟨d1, d2⟩] at T
                rw [if_neg (by omega)] at ht
                unfold vvZ at h12
                simp only [T, rfT, ht, hset_same]
                first | (simp; done) | (rw [hset_s (by decide), h12, if_neg (by omega), if_neg (by omega)]; obtain ⟨_, _, _⟩ := d0; obtain ⟨_, _, _⟩ := d1; omega)
        have eb : ¬ (48 ≤ (if ((p + i : Nat) : Int) < σ 58 6 then B ((p + i : Nat) : Int).toNat else -1) ∧ (if ((p + i : Nat) : Int) < σ 58 6 then B ((p + i : Nat) : Int).toNat else -1) ≤ 57) := by
          rw [Int.toNat_natCast]
          by_cases hlt : ((p + i : Nat) : Int) < σ 58 6
          · rw [if_pos hlt]
            exact fun z => hd ⟨by omega, z⟩
          · rw [if_neg hlt]
            omega
        have ebR : R32 (if ((p + i : Nat) : Int) < σ 58 6 then B ((p + i : Nat) : Int).toNat else -1) := by
          by_cases hlt : ((p + i : Nat) : Int) < σ 58 6
          · rw [if_pos hlt, Int.toNat_natCast]
            have := hBb (p + i) (by omega)
            exact ⟨by omega, by omega⟩
          · rw [if_neg hlt]
            exact ⟨by decide, by decide⟩
        refine hK (fun q => q == 38) 100 _ _ _ _ ?_
        simp only [↓wp, ↓stp, ilen, lnth, st1, st2, nolong, nohead, rnth, ↓gfX, ↓pfX, gfV, pfV, cpF, cpP, cndZ, ↓tgo, ↓tsw, ↓lsw, ↓ldI, ↓ldA, ↓ldL, ↓stI, ↓stA, ↓stL, ↓bin, ↓binD, ↓binL, ↓binDL, ↓una, ↓acV, ↓acK, ↓acpy, ↓inv, entL, nones, List.length_cons, List.length_nil, List.take, List.drop, List.reverse_cons, List.reverse_nil, List.nil_append, List.cons_append, Option.toList_some, Option.toList_none, Nat.reduceAdd, Nat.reduceSub, Nat.reduceLT, Nat.reduceEqDiff, Fin.isValue, aTL, aSZ, Int.toNat_natCast, hset_same, hset_o, hset_s, hset_row, ne_eq, Nat.reduceBEq, beq_self_eq_true, Fin.val_zero, Fin.val_one, fin0, fin1, fin2, fin3, Nat.le_refl, Nat.reduceLeDiff, Nat.zero_le, Int.reduceAdd, Int.reduceNeg, Int.reduceLE, Int.reduceLT, Int.reduceToNat, Int.reduceMul, Int.cast_ofNat_Int, Nat.reduceMod, ↓reduceIte, if_true, if_false, and_true, true_and, or_true, true_or, false_or, or_false, and_self, not_true_eq_false, not_false_eq_true, Bool.false_eq_true, reduceCtorEq, false_implies, true_implies, implies_true, and_false, false_and, dX8_advances_0, dX8_advances_1, dX8_advances_2, dX8_advances_5, dX8_advances_8, dX8_advances_9, dX8_advances_10, dX8_advances_13, dX8_advances_16, dX8_advances_17, dX8_advances_18, dX8_advances_19, dX8_advances_22, dX8_advances_23, dX8_advances_25, dX8_advances_27, dX8_advances_30, dX8_advances_33, dX8_advances_34, dX8_advances_35, dX8_advances_38, dX8_advances_39, dX8_advances_40, dX8_advances_43, dX8_advances_46, dX8_advances_48, dX8_advances_50, dX8_advances_53, dX8_advances_56, dX8_advances_57, dX8_advances_58, dX8_advances_61, dX8_advances_62, dX8_advances_65, dX8_advances_66, dX8_advances_67, dX8_advances_70, dX8_advances_72, dX8_advances_73, dX8_advances_76, dX8_advances_77, dX8_advances_78, dX8_advances_79, dX8_advances_82, dX8_advances_85, dX8_advances_86, dX8_advances_88, dX8_advances_89, dX8_advances_92, dX8_advances_93, dX8_advances_96, dX8_advances_99, dX8_advances_100, dX8_advances_101, dX8_advances_104, dX8_advances_105, dX8_advances_106, dX8_advances_109, dX8_advances_112, dX8_advances_113, dX8_advances_114, dX8_advances_117, dX8_advances_118, dX8_advances_121, dX8_advances_122, dX8_advances_123, dX8_advances_126, dX8_advances_127, dX8_advances_130, dX8_advances_131, dX8_advances_134, dX8_advances_135, dX8_advances_136, dX8_advances_137, dX8_advances_140, dX8_advances_141, dX8_advances_144, dX8_advances_145, dX8_advances_147, dX8_advances_149, dX8_advances_152, dX8_advances_155, dX8_advances_156, dX8_advances_159, dX8_advances_160, dX8_advances_162, dX8_advances_165, dX8_advances_166, dX8_advances_169, dX8_advances_170, dX8_advances_172, dX8_advances_175, dX8_advances_176, dX8_advances_179, dX8_advances_180, dX8_advances_183, dX8_advances_184, dX8_advances_185, dX8_advances_188, dX8_advances_189, dX8_advances_192, dX8_advances_195, dX8_advances_196, dX8_advances_199, dX8_advances_200, dX8_advances_201, dX8_advances_204, cpX8, mT_X8_advances, SHl_58, SHl_59, SHl_60, SHl_61, SHl_62, SHl_63, SHl_64, SHl_65, SHl_66, SHl_67, SHl_68, SHl_69, SHl_70, SHl_71, SHl_72, SHl_73, SHl_74, SHl_75, S_X8_byteAt, S_X8_in]
        rw [h9, e6, e63, ← hB, h10]
        refine ⟨hrt, by omega, ebR, ⟨by decide, by decide⟩, ⟨by decide, by decide⟩, ?_, fun _ => ⟨?_, ?_, fun h2 => ?_, fun h2 => ?_⟩, fun z => ?_⟩
        · rw [if_neg eb]
          exact ⟨by decide, by decide⟩
        · exact ⟨by omega, by omega⟩
        · exact ⟨by decide, by decide⟩
        · refine fin 5 ?_
          rw [if_neg (by omega)]
        · refine fin 2 ?_
          rw [if_pos (by omega)]
        · rw [if_neg eb] at z
          exact absurd rfl z
  refine hK (fun q => q == 38) 100 _ _ _ _ ?_
  simp only [↓wp, ↓stp, ilen, lnth, st1, st2, nolong, nohead, rnth, ↓gfX, ↓pfX, gfV, pfV, cpF, cpP, cndZ, ↓tgo, ↓tsw, ↓lsw, ↓ldI, ↓ldA, ↓ldL, ↓stI, ↓stA, ↓stL, ↓bin, ↓binD, ↓binL, ↓binDL, ↓una, ↓acV, ↓acK, ↓acpy, ↓inv, entL, nones, List.length_cons, List.length_nil, List.take, List.drop, List.reverse_cons, List.reverse_nil, List.nil_append, List.cons_append, Option.toList_some, Option.toList_none, Nat.reduceAdd, Nat.reduceSub, Nat.reduceLT, Nat.reduceEqDiff, Fin.isValue, aTL, aSZ, Int.toNat_natCast, hset_same, hset_o, hset_s, hset_row, ne_eq, Nat.reduceBEq, beq_self_eq_true, Fin.val_zero, Fin.val_one, fin0, fin1, fin2, fin3, Nat.le_refl, Nat.reduceLeDiff, Nat.zero_le, Int.reduceAdd, Int.reduceNeg, Int.reduceLE, Int.reduceLT, Int.reduceToNat, Int.reduceMul, Int.cast_ofNat_Int, Nat.reduceMod, ↓reduceIte, if_true, if_false, and_true, true_and, or_true, true_or, false_or, or_false, and_self, not_true_eq_false, not_false_eq_true, Bool.false_eq_true, reduceCtorEq, false_implies, true_implies, implies_true, and_false, false_and, dX8_advances_0, dX8_advances_1, dX8_advances_2, dX8_advances_5, dX8_advances_8, dX8_advances_9, dX8_advances_10, dX8_advances_13, dX8_advances_16, dX8_advances_17, dX8_advances_18, dX8_advances_19, dX8_advances_22, dX8_advances_23, dX8_advances_25, dX8_advances_27, dX8_advances_30, dX8_advances_33, dX8_advances_34, dX8_advances_35, dX8_advances_38, dX8_advances_39, dX8_advances_40, dX8_advances_43, dX8_advances_46, dX8_advances_48, dX8_advances_50, dX8_advances_53, dX8_advances_56, dX8_advances_57, dX8_advances_58, dX8_advances_61, dX8_advances_62, dX8_advances_65, dX8_advances_66, dX8_advances_67, dX8_advances_70, dX8_advances_72, dX8_advances_73, dX8_advances_76, dX8_advances_77, dX8_advances_78, dX8_advances_79, dX8_advances_82, dX8_advances_85, dX8_advances_86, dX8_advances_88, dX8_advances_89, dX8_advances_92, dX8_advances_93, dX8_advances_96, dX8_advances_99, dX8_advances_100, dX8_advances_101, dX8_advances_104, dX8_advances_105, dX8_advances_106, dX8_advances_109, dX8_advances_112, dX8_advances_113, dX8_advances_114, dX8_advances_117, dX8_advances_118, dX8_advances_121, dX8_advances_122, dX8_advances_123, dX8_advances_126, dX8_advances_127, dX8_advances_130, dX8_advances_131, dX8_advances_134, dX8_advances_135, dX8_advances_136, dX8_advances_137, dX8_advances_140, dX8_advances_141, dX8_advances_144, dX8_advances_145, dX8_advances_147, dX8_advances_149, dX8_advances_152, dX8_advances_155, dX8_advances_156, dX8_advances_159, dX8_advances_160, dX8_advances_162, dX8_advances_165, dX8_advances_166, dX8_advances_169, dX8_advances_170, dX8_advances_172, dX8_advances_175, dX8_advances_176, dX8_advances_179, dX8_advances_180, dX8_advances_183, dX8_advances_184, dX8_advances_185, dX8_advances_188, dX8_advances_189, dX8_advances_192, dX8_advances_195, dX8_advances_196, dX8_advances_199, dX8_advances_200, dX8_advances_201, dX8_advances_204, cpX8, mT_X8_advances, SHl_58, SHl_59, SHl_60, SHl_61, SHl_62, SHl_63, SHl_64, SHl_65, SHl_66, SHl_67, SHl_68, SHl_69, SHl_70, SHl_71, SHl_72, SHl_73, SHl_74, SHl_75, S_X8_byteAt, S_X8_in]
  rw [hp, ← hB]
  have t0 : rtk (hset σ 58 10 (p : Int)) := hTn _ rfl rfl
  rw [Int.toNat_natCast]
  by_cases he : (p : Int) < σ 58 6
  · rw [if_pos he]
    have hb := hBb p (by omega)
    by_cases hd : isDg B L p
    · obtain ⟨d1, d2, d3⟩ := id hd
      have l0 := fun c => loop (L + 1) 0 (hset (hset (hset σ 58 10 (p : Int)) 58 12 (B p)) 58 12 0) c (by omega) (by omega) (fun q hq => by omega) hd ⟨only_set (only_set (only_set (fun _ _ => rfl) rfl) rfl) rfl, fun j hj => by rw [hset_s (by omega), hset_s (by omega), hset_s (by omega)]⟩ (by rw [hset_s (by decide), hset_s (by decide), hset_same]) (by rw [hset_s (by decide), hset_s (by decide), hset_s (by decide), hp]; simp) hset_same
      refine ⟨t0, by omega, ⟨by omega, by omega⟩, ⟨by decide, by decide⟩, ⟨by decide, by decide⟩, ?_, fun z => ?_, fun _ => l0 _⟩
      · split <;> exact ⟨by decide, by decide⟩
      · rw [if_pos ⟨d2, d3⟩] at z
        exact absurd z (by decide)
    · have hnd : ¬ (48 ≤ B p ∧ B p ≤ 57) := fun z => hd ⟨by omega, z⟩
      have eT : tkT B L p = if (97 ≤ B p ∧ B p ≤ 122) ∨ B p = 44 ∨ B p = 59 then B p else -2 := by
        unfold tkT
        rw [if_neg (by omega), if_neg hd]
      have eW : tkW B L p = 1 := by
        unfold tkW
        rw [if_neg (fun z => hd z.1)]
      have fin : ∀ t, (t = if 97 ≤ B p ∧ B p ≤ 122 then 1 else if B p = 44 then 3 else if B p = 59 then 4 else (5 : Int)) → Q none (hset (hset (hset (hset σ 58 10 (p : Int)) 58 12 (B p)) 58 11 t) 58 9 ((p : Int) + 1)) := by
        intro t ht
        refine hq _ ⟨only_set (only_set (only_set (only_set (fun _ _ => rfl) rfl) rfl) rfl) rfl, fun j hj => by rw [hset_s (by omega), hset_s (by omega), hset_s (by omega), hset_s (by omega)]⟩ ⟨hpL, ?_, ?_, fun z => ?_, fun z => ?_, ?_, fun z1 z2 => ?_⟩
        · rw [hset_s (by decide), hset_s (by decide), hset_s (by decide), hset_same]
        · rw [hset_s (by decide), hset_same, eT, ht]
          unfold rfT
          by_cases g1 : 97 ≤ B p ∧ B p ≤ 122
          · rw [if_pos g1, if_pos (Or.inl g1), if_neg (by omega), if_neg (by omega), if_neg (by omega), if_neg (by omega), if_neg (by omega)]
          · rw [if_neg g1]
            by_cases g2 : B p = 44
            · rw [if_pos g2, if_pos (Or.inr (Or.inl g2)), g2]
              decide
            · rw [if_neg g2]
              by_cases g3 : B p = 59
              · rw [if_pos g3, if_pos (Or.inr (Or.inr g3)), g3]
                decide
              · have g4 : ¬ ((97 ≤ B p ∧ B p ≤ 122) ∨ B p = 44 ∨ B p = 59) := by omega
                rw [if_neg g3]
                simp only [if_neg g4]
                decide
        · rw [eT] at z
          split at z <;> omega
        · rw [hset_s (by decide), hset_s (by decide), hset_same, eT]
          rw [eT] at z
          split at z
          · rw [if_pos ‹_›]
          · omega
        · rw [hset_s (by decide), hset_s (by decide), hset_same]
          omega
        · rw [hset_same, eW]
          omega
      refine ⟨t0, by omega, ⟨by omega, by omega⟩, ⟨by decide, by decide⟩, ⟨by decide, by decide⟩, ?_, fun _ => ?_, fun z => ?_⟩
      · split <;> exact ⟨by decide, by decide⟩
      · (repeat' (first | (refine fin _ ?_; (repeat' (first | rfl | (rw [if_pos (by omega)]; done) | rw [if_neg (by omega)] | rw [if_pos (by omega)])); done) | apply And.intro | intro _)) <;> first | omega | (split <;> exact ⟨by decide, by decide⟩) | (split <;> decide) | (simp_all; done) | (simp_all <;> omega)
      · rw [if_neg hnd] at z
        exact absurd rfl z
  · rw [if_neg he]
    have eT : tkT B L p = -1 := by
      unfold tkT
      rw [if_pos (by omega)]
    have fin : ∀ x, x = (p : Int) → Q none (hset (hset (hset (hset σ 58 10 (p : Int)) 58 12 (-1)) 58 11 0) 58 9 x) := by
      intro x hx
      refine hq _ ⟨only_set (only_set (only_set (only_set (fun _ _ => rfl) rfl) rfl) rfl) rfl, fun j hj => by rw [hset_s (by omega), hset_s (by omega), hset_s (by omega), hset_s (by omega)]⟩ ⟨hpL, ?_, ?_, fun z => ?_, fun z => ?_, ?_, fun z1 z2 => ?_⟩
      · rw [hset_s (by decide), hset_s (by decide), hset_s (by decide), hset_same]
      · rw [hset_s (by decide), hset_same, eT]
        rfl
      · omega
      · omega
      · rw [hset_s (by decide), hset_s (by decide), hset_same]
        omega
      · exact absurd eT z2
    (repeat' (first | exact t0 | exact fin _ (by omega) | apply And.intro | intro _)) <;> first | omega | (split <;> exact ⟨by decide, by decide⟩) | (simp_all; done) | (simp_all <;> omega)
