/-! ===== the reference: ask ===== -/
def szL (kd : Int) : List Int := if kd = 2 then 12 :: 11 :: 10 :: mkL kd else 11 :: 10 :: mkL kd
def szA (kd v : Int) : Int := if kd = 2 then -v else v
def S_X8_plainSize : MSpec := fun a σ Q => match a with
  | [.inr (.inl 58), .inl c] => okV (vM σ 64 0) ∧ (0 ≤ c ∧ c < σ 64 1) ∧ (0 ≤ σ 58 27 ∧ σ 58 27 < 4) ∧ ∀ τ, fdOk (pushL 58 27 75 σ (szL (vM σ 64 0 1 c.toNat))) τ (vM σ 64 0) → Q (some (.inl (szA (vM σ 64 0 1 c.toNat) (vM σ 64 0 5 c.toNat + mkA (vM σ 64 0 1 c.toNat) (c + ((winV (vM σ 64 0) c.toNat : Int) - 15)))))) τ
  | _ => False
theorem rc_X8_plainSize : ∀ a σ Q, S_X8_plainSize a σ Q → ∃ (p : Nat) (r : List AV), a = .inr (.inl p) :: r ∧ p < 76 ∧ (SH p).1 = 4 ∧ (SH p).2.1 = 7 := by
  intro a σ Q h
  unfold S_X8_plainSize at h
  split at h
  · exact ⟨58, _, rfl, by decide, rfl, rfl⟩
  · exact h.elim
def mT_X8_plainSize (i : Nat) : Option (Nat × Bool × MSpec) := match i with
  | 260 => some (2, true, S_X8_kindIn)
  | 266 => some (2, true, S_X8_begins)
  | 270 => some (2, true, S_X8_plainMark)
  | _ => none
theorem mT_X8_plainSize_ok {l : Launch} {n : Nat} (hn : 9 ≤ n) : ∀ i e, mT_X8_plainSize i = some e → mV l (rmOf n) RX8 i e := by
  intro i e h
  unfold mT_X8_plainSize at h
  split at h
  · cases h; exact mvI (lv := 0) (ci := 7) (T := TX8) (N := 28) mw_X8_kindIn rfl (by omega) (by decide) (by decide +kernel) (gtm 1097 (by decide +kernel) (by decide +kernel)) rc_X8_kindIn ok_X8_kindIn
  · cases h; exact mvI (lv := 0) (ci := 7) (T := TX8) (N := 28) mw_X8_begins rfl (by omega) (by decide) (by decide +kernel) (gtm 1113 (by decide +kernel) (by decide +kernel)) rc_X8_begins ok_X8_begins
  · cases h; exact mvI (lv := 8) (ci := 7) (T := TX8) (N := 28) mw_X8_plainMark rfl (by omega) (by decide) (by decide +kernel) (gtm 1121 (by decide +kernel) (by decide +kernel)) rc_X8_plainMark ok_X8_plainMark
  · cases h
set_option maxRecDepth 100000 in
set_option maxHeartbeats 4000000 in
theorem ok_X8_plainSize : ∀ l n, 9 ≤ n → ∀ a σ Q, S_X8_plainSize a σ Q → AM l n yX8_plainSize cX8_plainSize 4 (some .int) a σ Q := by
  intro l n hn a σ Q hS
  unfold S_X8_plainSize at hS
  split at hS
  rotate_left
  · exact hS.elim
  rename_i c
  obtain ⟨hV, c1, t1, hq⟩ := hS
  refine am_ofF 1 cpX8 mT_X8_plainSize (plainFor_of_name (by decide +kernel)) (rfl) (Nat.le_of_ble_eq_true rfl) (cpX8_ok) (mT_X8_plainSize_ok hn) (fun K hK => ?_)
  refine hK (fun _ => false) 200 _ _ _ _ ?_
  simp only [↓wp, ↓stp, ilen, lnth, st1, st2, nolong, nohead, rnth, ↓gfX, ↓pfX, gfV, pfV, cpF, cpP, cndZ, ↓tgo, ↓tsw, ↓lsw, ↓ldI, ↓ldA, ↓ldL, ↓stI, ↓stA, ↓stL, ↓bin, ↓binD, ↓binL, ↓binDL, ↓una, ↓acV, ↓acK, ↓acpy, ↓inv, entL, nones, List.length_cons, List.length_nil, List.take, List.drop, List.reverse_cons, List.reverse_nil, List.nil_append, List.cons_append, Option.toList_some, Option.toList_none, Nat.reduceAdd, Nat.reduceSub, Nat.reduceLT, Nat.reduceEqDiff, Fin.isValue, aTL, aSZ, Int.toNat_natCast, hset_same, hset_o, hset_s, hset_row, ne_eq, Nat.reduceBEq, beq_self_eq_true, Fin.val_zero, Fin.val_one, fin0, fin1, fin2, fin3, Nat.le_refl, Nat.reduceLeDiff, Nat.zero_le, Int.reduceAdd, Int.reduceNeg, Int.reduceLE, Int.reduceLT, Int.reduceToNat, Int.reduceMul, Int.cast_ofNat_Int, Nat.reduceMod, ↓reduceIte, if_true, if_false, and_true, true_and, or_true, true_or, false_or, or_false, and_self, not_true_eq_false, not_false_eq_true, Bool.false_eq_true, reduceCtorEq, false_implies, true_implies, implies_true, and_false, false_and, dX8_plainSize_0, dX8_plainSize_1, dX8_plainSize_2, dX8_plainSize_5, dX8_plainSize_6, dX8_plainSize_9, dX8_plainSize_10, dX8_plainSize_13, dX8_plainSize_14, dX8_plainSize_15, dX8_plainSize_16, dX8_plainSize_19, dX8_plainSize_20, dX8_plainSize_22, dX8_plainSize_25, dX8_plainSize_26, dX8_plainSize_28, dX8_plainSize_31, dX8_plainSize_32, dX8_plainSize_34, dX8_plainSize_37, dX8_plainSize_38, dX8_plainSize_41, dX8_plainSize_42, dX8_plainSize_43, dX8_plainSize_44, dX8_plainSize_45, dX8_plainSize_46, dX8_plainSize_47, dX8_plainSize_48, dX8_plainSize_49, dX8_plainSize_50, dX8_plainSize_51, dX8_plainSize_54, dX8_plainSize_55, dX8_plainSize_56, dX8_plainSize_57, dX8_plainSize_60, dX8_plainSize_61, dX8_plainSize_62, dX8_plainSize_65, dX8_plainSize_66, cpX8, mT_X8_plainSize, SHl_58, SHl_59, SHl_60, SHl_61, SHl_62, SHl_63, SHl_64, SHl_65, SHl_66, SHl_67, SHl_68, SHl_69, SHl_70, SHl_71, SHl_72, SHl_73, SHl_74, SHl_75, S_X8_begins, S_X8_kindIn, S_X8_plainMark, pgn, pg4]
  obtain ⟨v0, v1, v2⟩ := vM_0 σ 64
  have o2 := hV.2.1
  obtain ⟨e1, e2, e3, e4, e5⟩ := vM_c (σ := σ) (w := 64) (c := c.toNat) (by omega)
  have hk := (hV.2.2.2.2.1 c.toNat (by omega)).1
  rw [show 5 * c.toNat + 3 = (3 + 5 * c).toNat by omega] at e1
  rw [show 5 * c.toNat + 5 = (3 + 5 * c + 2).toNat by omega] at e5
  simp only [vM_only (σ := σ) pg4, vM_only (σ := σ) (pg4.trans pg4), vM_only (σ := σ) (pg4.trans (pg4.trans pg4)), ← e1, ← e5]
  unfold szL szA at hq
  by_cases h2 : vM σ 64 0 1 c.toNat = 2
  · rw [if_pos h2] at hq
    simp only [if_pos h2] at hq
    (repeat' (first | exact hV | apply And.intro | intro _)) <;> first | omega | exact hq _ ‹_›
  · rw [if_neg h2] at hq
    simp only [if_neg h2] at hq
    (repeat' (first | exact hV | apply And.intro | intro _)) <;> first | omega | exact hq _ ‹_›
def S_X8_heldMark : MSpec := fun a σ Q => match a with
  | [.inr (.inl 58), .inl c] => (0 ≤ c ∧ c < 10) ∧ (0 ≤ σ 58 27 ∧ σ 58 27 < 4) ∧ (1 ≤ σ 64 (3 + 5 * c).toNat ∧ σ 64 (3 + 5 * c).toNat ≤ 5) ∧ (if σ 64 (3 + 5 * c).toNat = 5 then Q (some (.inl (c - 2 * (σ 64 (3 + 5 * c + 2).toNat - 100)))) (pushL 58 27 75 σ [23, 20, 14, 13, 10]) else Q (some (.inl (c - (σ 64 (3 + 5 * c + 2).toNat - 100)))) (pushL 58 27 75 σ [23, 20, 13, 10]))
  | _ => False
theorem rc_X8_heldMark : ∀ a σ Q, S_X8_heldMark a σ Q → ∃ (p : Nat) (r : List AV), a = .inr (.inl p) :: r ∧ p < 76 ∧ (SH p).1 = 4 ∧ (SH p).2.1 = 7 := by
  intro a σ Q h
  unfold S_X8_heldMark at h
  split at h
  · exact ⟨58, _, rfl, by decide, rfl, rfl⟩
  · exact h.elim
def mT_X8_heldMark (i : Nat) : Option (Nat × Bool × MSpec) := match i with
  | 266 => some (2, true, S_X8_begins)
  | 273 => some (2, true, S_X8_heldSize)
  | _ => none
theorem mT_X8_heldMark_ok {l : Launch} {n : Nat} (hn : 2 ≤ n) : ∀ i e, mT_X8_heldMark i = some e → mV l (rmOf n) RX8 i e := by
  intro i e h
  unfold mT_X8_heldMark at h
  split at h
  · cases h; exact mvI (lv := 0) (ci := 7) (T := TX8) (N := 28) mw_X8_begins rfl (by omega) (by decide) (by decide +kernel) (gtm 1113 (by decide +kernel) (by decide +kernel)) rc_X8_begins ok_X8_begins
  · cases h; exact mvI (lv := 1) (ci := 7) (T := TX8) (N := 28) mw_X8_heldSize rfl (by omega) (by decide) (by decide +kernel) (gtm 1109 (by decide +kernel) (by decide +kernel)) rc_X8_heldSize ok_X8_heldSize
  · cases h
set_option maxRecDepth 100000 in
set_option maxHeartbeats 4000000 in
theorem ok_X8_heldMark : ∀ l n, 2 ≤ n → ∀ a σ Q, S_X8_heldMark a σ Q → AM l n yX8_heldMark cX8_heldMark 2 (some .int) a σ Q := by
  intro l n hn a σ Q hS
  unfold S_X8_heldMark at hS
  split at hS
  rotate_left
  · exact hS.elim
  rename_i c
  obtain ⟨c1, t1, k1, hq⟩ := hS
  refine am_ofF 1 cpX8 mT_X8_heldMark (plainFor_of_name (by decide +kernel)) (rfl) (Nat.le_of_ble_eq_true rfl) (cpX8_ok) (mT_X8_heldMark_ok hn) (fun K hK => ?_)
  refine hK (fun _ => false) 200 _ _ _ _ ?_
  simp only [↓wp, ↓stp, ilen, lnth, st1, st2, nolong, nohead, rnth, ↓gfX, ↓pfX, gfV, pfV, cpF, cpP, cndZ, ↓tgo, ↓tsw, ↓lsw, ↓ldI, ↓ldA, ↓ldL, ↓stI, ↓stA, ↓stL, ↓bin, ↓binD, ↓binL, ↓binDL, ↓una, ↓acV, ↓acK, ↓acpy, ↓inv, entL, nones, List.length_cons, List.length_nil, List.take, List.drop, List.reverse_cons, List.reverse_nil, List.nil_append, List.cons_append, Option.toList_some, Option.toList_none, Nat.reduceAdd, Nat.reduceSub, Nat.reduceLT, Nat.reduceEqDiff, Fin.isValue, aTL, aSZ, Int.toNat_natCast, hset_same, hset_o, hset_s, hset_row, ne_eq, Nat.reduceBEq, beq_self_eq_true, Fin.val_zero, Fin.val_one, fin0, fin1, fin2, fin3, Nat.le_refl, Nat.reduceLeDiff, Nat.zero_le, Int.reduceAdd, Int.reduceNeg, Int.reduceLE, Int.reduceLT, Int.reduceToNat, Int.reduceMul, Int.cast_ofNat_Int, Nat.reduceMod, ↓reduceIte, if_true, if_false, and_true, true_and, or_true, true_or, false_or, or_false, and_self, not_true_eq_false, not_false_eq_true, Bool.false_eq_true, reduceCtorEq, false_implies, true_implies, implies_true, and_false, false_and, dX8_heldMark_0, dX8_heldMark_1, dX8_heldMark_3, dX8_heldMark_6, dX8_heldMark_7, dX8_heldMark_9, dX8_heldMark_12, dX8_heldMark_13, dX8_heldMark_14, dX8_heldMark_15, dX8_heldMark_18, dX8_heldMark_19, cpX8, mT_X8_heldMark, SHl_58, SHl_59, SHl_60, SHl_61, SHl_62, SHl_63, SHl_64, SHl_65, SHl_66, SHl_67, SHl_68, SHl_69, SHl_70, SHl_71, SHl_72, SHl_73, SHl_74, SHl_75, S_X8_begins, S_X8_heldSize, pgn, pg4]
  by_cases h5 : σ 64 (3 + 5 * c).toNat = 5
  · rw [if_pos h5] at hq ⊢
    (repeat' (first | exact hq | apply And.intro | intro _)) <;> first | omega | exact hq
  · rw [if_neg h5] at hq ⊢
    (repeat' (first | exact hq | apply And.intro | intro _)) <;> first | omega | exact hq
/-- what a chord answers that is asked, and the trace -/
def akL (w kd : Int) : List Int := if w = 0 then (if kd = 5 then [14, 13, 10] else if kd = 4 then [13, 10] else szL kd) else (if kd = 5 then [23, 20, 14, 13, 10] else if kd = 4 then [23, 20, 13, 10] else mkL kd)
def akA (w kd c n x : Int) : Int := if w = 0 then (if kd = 5 then 2 * (n - 100) else if kd = 4 then n - 100 else szA kd (n + mkA kd (c + x))) else (if kd = 5 then c - 2 * (n - 100) else if kd = 4 then c - (n - 100) else mkA kd (c + x))
def S_X8_ask : MSpec := fun a σ Q => match a with
  | [.inr (.inl 58), .inl c, .inl w] => R32 c ∧ R32 w ∧ okV (vM σ 64 0) ∧ (if ¬ (0 ≤ c ∧ c < σ 64 1) ∨ ¬ (0 ≤ w ∧ w ≤ 1) then Q (some (.inl (-1000001))) σ else ∀ τ, (τ = pushL 58 27 75 (hset σ 58 27 0) (akL w (vM σ 64 0 1 c.toNat)) ∨ fdOk (pushL 58 27 75 (hset σ 58 27 0) (akL w (vM σ 64 0 1 c.toNat))) τ (vM σ 64 0)) → Q (some (.inl (akA w (vM σ 64 0 1 c.toNat) c (vM σ 64 0 5 c.toNat) ((winV (vM σ 64 0) c.toNat : Int) - 15)))) τ)
  | _ => False
theorem rc_X8_ask : ∀ a σ Q, S_X8_ask a σ Q → ∃ (p : Nat) (r : List AV), a = .inr (.inl p) :: r ∧ p < 76 ∧ (SH p).1 = 4 ∧ (SH p).2.1 = 7 := by
  intro a σ Q h
  unfold S_X8_ask at h
  split at h
  · exact ⟨58, _, rfl, by decide, rfl, rfl⟩
  · exact h.elim
def mT_X8_ask (i : Nat) : Option (Nat × Bool × MSpec) := match i with
  | 68 => some (3, false, S_X8_in)
  | 212 => some (2, true, S_X8_isChord)
  | 260 => some (2, true, S_X8_kindIn)
  | 270 => some (2, true, S_X8_plainMark)
  | 273 => some (2, true, S_X8_heldSize)
  | 276 => some (2, true, S_X8_plainSize)
  | 279 => some (2, true, S_X8_heldMark)
  | _ => none
theorem mT_X8_ask_ok {l : Launch} {n : Nat} (hn : 10 ≤ n) : ∀ i e, mT_X8_ask i = some e → mV l (rmOf n) RX8 i e := by
  intro i e h
  unfold mT_X8_ask at h
  split at h
  · cases h; exact mvS (lv := 0) mw_X8_in (by omega) (by decide) (by decide +kernel) (Or.inl (gtm 831 (by decide +kernel) (by decide +kernel))) ok_X8_in
  · cases h; exact mvI (lv := 1) (ci := 7) (T := TX8) (N := 28) mw_X8_isChord rfl (by omega) (by decide) (by decide +kernel) (gtm 936 (by decide +kernel) (by decide +kernel)) rc_X8_isChord ok_X8_isChord
  · cases h; exact mvI (lv := 0) (ci := 7) (T := TX8) (N := 28) mw_X8_kindIn rfl (by omega) (by decide) (by decide +kernel) (gtm 1097 (by decide +kernel) (by decide +kernel)) rc_X8_kindIn ok_X8_kindIn
  · cases h; exact mvI (lv := 8) (ci := 7) (T := TX8) (N := 28) mw_X8_plainMark rfl (by omega) (by decide) (by decide +kernel) (gtm 1121 (by decide +kernel) (by decide +kernel)) rc_X8_plainMark ok_X8_plainMark
  · cases h; exact mvI (lv := 1) (ci := 7) (T := TX8) (N := 28) mw_X8_heldSize rfl (by omega) (by decide) (by decide +kernel) (gtm 1109 (by decide +kernel) (by decide +kernel)) rc_X8_heldSize ok_X8_heldSize
  · cases h; exact mvI (lv := 9) (ci := 7) (T := TX8) (N := 28) mw_X8_plainSize rfl (by omega) (by decide) (by decide +kernel) (gtm 1117 (by decide +kernel) (by decide +kernel)) rc_X8_plainSize ok_X8_plainSize
  · cases h; exact mvI (lv := 2) (ci := 7) (T := TX8) (N := 28) mw_X8_heldMark rfl (by omega) (by decide) (by decide +kernel) (gtm 1125 (by decide +kernel) (by decide +kernel)) rc_X8_heldMark ok_X8_heldMark
  · cases h
set_option maxRecDepth 100000 in
set_option maxHeartbeats 4000000 in
theorem ok_X8_ask : ∀ l n, 10 ≤ n → ∀ a σ Q, S_X8_ask a σ Q → AM l n yX8_ask cX8_ask 4 (some .int) a σ Q := by
  intro l n hn a σ Q hS
  unfold S_X8_ask at hS
  split at hS
  rotate_left
  · exact hS.elim
  rename_i c w
  obtain ⟨⟨c1, c2⟩, ⟨w1, w2⟩, hV, hq⟩ := hS
  refine am_ofF 1 cpX8 mT_X8_ask (plainFor_of_name (by decide +kernel)) (rfl) (Nat.le_of_ble_eq_true rfl) (cpX8_ok) (mT_X8_ask_ok hn) (fun K hK => ?_)
  refine hK (fun _ => false) 200 _ _ _ _ ?_
  simp only [↓wp, ↓stp, ilen, lnth, st1, st2, nolong, nohead, rnth, ↓gfX, ↓pfX, gfV, pfV, cpF, cpP, cndZ, ↓tgo, ↓tsw, ↓lsw, ↓ldI, ↓ldA, ↓ldL, ↓stI, ↓stA, ↓stL, ↓bin, ↓binD, ↓binL, ↓binDL, ↓una, ↓acV, ↓acK, ↓acpy, ↓inv, entL, nones, List.length_cons, List.length_nil, List.take, List.drop, List.reverse_cons, List.reverse_nil, List.nil_append, List.cons_append, Option.toList_some, Option.toList_none, Nat.reduceAdd, Nat.reduceSub, Nat.reduceLT, Nat.reduceEqDiff, Fin.isValue, aTL, aSZ, Int.toNat_natCast, hset_same, hset_o, hset_s, hset_row, ne_eq, Nat.reduceBEq, beq_self_eq_true, Fin.val_zero, Fin.val_one, fin0, fin1, fin2, fin3, Nat.le_refl, Nat.reduceLeDiff, Nat.zero_le, Int.reduceAdd, Int.reduceNeg, Int.reduceLE, Int.reduceLT, Int.reduceToNat, Int.reduceMul, Int.cast_ofNat_Int, Nat.reduceMod, ↓reduceIte, if_true, if_false, and_true, true_and, or_true, true_or, false_or, or_false, and_self, not_true_eq_false, not_false_eq_true, Bool.false_eq_true, reduceCtorEq, false_implies, true_implies, implies_true, and_false, false_and, dX8_ask_0, dX8_ask_1, dX8_ask_2, dX8_ask_5, dX8_ask_8, dX8_ask_9, dX8_ask_10, dX8_ask_11, dX8_ask_14, dX8_ask_17, dX8_ask_19, dX8_ask_20, dX8_ask_21, dX8_ask_22, dX8_ask_25, dX8_ask_26, dX8_ask_27, dX8_ask_30, dX8_ask_31, dX8_ask_34, dX8_ask_35, dX8_ask_38, dX8_ask_39, dX8_ask_40, dX8_ask_41, dX8_ask_44, dX8_ask_45, dX8_ask_48, dX8_ask_49, dX8_ask_50, dX8_ask_53, dX8_ask_56, dX8_ask_57, dX8_ask_58, dX8_ask_61, dX8_ask_62, dX8_ask_63, dX8_ask_66, dX8_ask_67, dX8_ask_68, dX8_ask_71, dX8_ask_74, dX8_ask_75, dX8_ask_76, dX8_ask_79, cpX8, mT_X8_ask, SHl_58, SHl_59, SHl_60, SHl_61, SHl_62, SHl_63, SHl_64, SHl_65, SHl_66, SHl_67, SHl_68, SHl_69, SHl_70, SHl_71, SHl_72, SHl_73, SHl_74, SHl_75, S_X8_heldMark, S_X8_heldSize, S_X8_in, S_X8_isChord, S_X8_kindIn, S_X8_plainMark, S_X8_plainSize]
  obtain ⟨v0, v1, v2⟩ := vM_0 σ 64
  have o2 := hV.2.1
  by_cases hc : (0 ≤ c ∧ c < σ 64 1) ∧ (0 ≤ w ∧ w ≤ 1)
  · rw [if_neg (by omega)] at hq
    obtain ⟨e1, e2, e3, e4, e5⟩ := vM_c (σ := σ) (w := 64) (c := c.toNat) (by omega)
    have hk := (hV.2.2.2.2.1 c.toNat (by omega)).1
    rw [show 5 * c.toNat + 3 = (3 + 5 * c).toNat by omega] at e1
    rw [show 5 * c.toNat + 5 = (3 + 5 * c + 2).toNat by omega] at e5
    simp only [vM_only (σ := σ) (w := 64) (o := 0) (hset_row (σ := σ) (p := 58) (k := 27) (v := 0) (by decide)), ← e1, ← e5]
    generalize hkd : vM σ 64 0 1 c.toNat = kd at *
    unfold akL akA at hq
    by_cases h0 : w = 0
    · simp only [if_pos h0] at hq
      by_cases h5 : kd = 5
      · simp only [if_pos h5] at hq ⊢
        (repeat' (first | exact hV | apply And.intro | intro _)) <;> first | omega | exact hq _ (Or.inl rfl) | exact hq _ (Or.inr ‹_›)
      · by_cases h4 : kd = 4
        · simp only [if_neg h5, if_pos h4] at hq ⊢
          (repeat' (first | exact hV | apply And.intro | intro _)) <;> first | omega | exact hq _ (Or.inl rfl) | exact hq _ (Or.inr ‹_›)
        · simp only [if_neg h5, if_neg h4] at hq ⊢
          (repeat' (first | exact hV | apply And.intro | intro _)) <;> first | omega | exact hq _ (Or.inl rfl) | exact hq _ (Or.inr ‹_›)
    · simp only [if_neg h0] at hq
      by_cases h5 : kd = 5
      · simp only [if_pos h5] at hq ⊢
        (repeat' (first | exact hV | apply And.intro | intro _)) <;> first | omega | exact hq _ (Or.inl rfl) | exact hq _ (Or.inr ‹_›)
      · by_cases h4 : kd = 4
        · simp only [if_neg h5, if_pos h4] at hq ⊢
          (repeat' (first | exact hV | apply And.intro | intro _)) <;> first | omega | exact hq _ (Or.inl rfl) | exact hq _ (Or.inr ‹_›)
        · simp only [if_neg h5, if_neg h4] at hq ⊢
          (repeat' (first | exact hV | apply And.intro | intro _)) <;> first | omega | exact hq _ (Or.inl rfl) | exact hq _ (Or.inr ‹_›)
  · (repeat' (first | apply And.intro | intro _)) <;> first | omega | (rw [if_pos (by omega)] at hq; exact hq)
