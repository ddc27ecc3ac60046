/-! ===== the reference: takes, figure, marks ===== -/
def S_X8_takes : MSpec := fun a σ Q => match a with
  | [.inr (.inl 58), .inl t, .inl k] => rtk σ ∧ R32 (σ 58 8) ∧ (t = 0 ∨ t = 1) ∧ (if 0 ≤ σ 58 8 then Q (some (.inl 0)) σ else if t = 0 then Q (some (.inl 0)) (hset (hset σ 58 8 (σ 58 10)) 58 7 k) else (0 ≤ σ 58 9 ∧ σ 58 9 ≤ σ 58 6) ∧ ∀ τ, adP σ τ → ldP (σ 63) (rL σ) τ (σ 58 9).toNat → Q (some (.inl (σ 58 12))) τ)
  | _ => False
theorem rc_X8_takes : ∀ a σ Q, S_X8_takes a σ Q → ∃ (p : Nat) (r : List AV), a = .inr (.inl p) :: r ∧ p < 76 ∧ (SH p).1 = 4 ∧ (SH p).2.1 = 7 := by
  intro a σ Q h
  unfold S_X8_takes at h
  split at h
  · exact ⟨58, _, rfl, by decide, rfl, rfl⟩
  · exact h.elim
def mT_X8_takes (i : Nat) : Option (Nat × Bool × MSpec) := match i with
  | 116 => some (1, true, S_X8_isWell)
  | 123 => some (1, true, S_X8_advances)
  | _ => none
theorem mT_X8_takes_ok {l : Launch} {n : Nat} (hn : 2 ≤ n) : ∀ i e, mT_X8_takes i = some e → mV l (rmOf n) RX8 i e := by
  intro i e h
  unfold mT_X8_takes at h
  split at h
  · cases h; exact mvI (lv := 0) (ci := 7) (T := TX8) (N := 28) mw_X8_isWell rfl (by omega) (by decide) (by decide +kernel) (gtm 888 (by decide +kernel) (by decide +kernel)) rc_X8_isWell ok_X8_isWell
  · cases h; exact mvI (lv := 1) (ci := 7) (T := TX8) (N := 28) mw_X8_advances rfl (by omega) (by decide) (by decide +kernel) (gtm 876 (by decide +kernel) (by decide +kernel)) rc_X8_advances ok_X8_advances
  · cases h
set_option maxRecDepth 100000 in
set_option maxHeartbeats 4000000 in
theorem ok_X8_takes : ∀ l n, 2 ≤ n → ∀ a σ Q, S_X8_takes a σ Q → AM l n yX8_takes cX8_takes 4 (some .int) a σ Q := by
  intro l n hn a σ Q hS
  unfold S_X8_takes at hS
  split at hS
  rotate_left
  · exact hS.elim
  rename_i t k
  obtain ⟨hT, ⟨r1, r2⟩, ht, hq⟩ := hS
  refine am_ofF 1 cpX8 mT_X8_takes (plainFor_of_name (by decide +kernel)) (rfl) (Nat.le_of_ble_eq_true rfl) (cpX8_ok) (mT_X8_takes_ok hn) (fun K hK => ?_)
  refine hK (fun _ => false) 200 _ _ _ _ ?_
  simp only [↓wp, ↓stp, ilen, lnth, st1, st2, nolong, nohead, rnth, ↓gfX, ↓pfX, gfV, pfV, cpF, cpP, cndZ, ↓tgo, ↓tsw, ↓lsw, ↓ldI, ↓ldA, ↓ldL, ↓stI, ↓stA, ↓stL, ↓bin, ↓binD, ↓binL, ↓binDL, ↓una, ↓acV, ↓acK, ↓acpy, ↓inv, entL, nones, List.length_cons, List.length_nil, List.take, List.drop, List.reverse_cons, List.reverse_nil, List.nil_append, List.cons_append, Option.toList_some, Option.toList_none, Nat.reduceAdd, Nat.reduceSub, Nat.reduceLT, Nat.reduceEqDiff, Fin.isValue, aTL, aSZ, Int.toNat_natCast, hset_same, hset_o, hset_s, hset_row, ne_eq, Nat.reduceBEq, beq_self_eq_true, Fin.val_zero, Fin.val_one, fin0, fin1, fin2, fin3, Nat.le_refl, Nat.reduceLeDiff, Nat.zero_le, Int.reduceAdd, Int.reduceNeg, Int.reduceLE, Int.reduceLT, Int.reduceToNat, Int.reduceMul, Int.cast_ofNat_Int, Nat.reduceMod, ↓reduceIte, if_true, if_false, and_true, true_and, or_true, true_or, false_or, or_false, and_self, not_true_eq_false, not_false_eq_true, Bool.false_eq_true, reduceCtorEq, false_implies, true_implies, implies_true, and_false, false_and, dX8_takes_0, dX8_takes_1, dX8_takes_4, dX8_takes_7, dX8_takes_8, dX8_takes_9, dX8_takes_10, dX8_takes_13, dX8_takes_14, dX8_takes_15, dX8_takes_18, dX8_takes_21, dX8_takes_22, dX8_takes_23, dX8_takes_26, dX8_takes_27, dX8_takes_28, dX8_takes_29, dX8_takes_32, dX8_takes_33, dX8_takes_34, dX8_takes_37, dX8_takes_38, cpX8, mT_X8_takes, SHl_58, SHl_59, SHl_60, SHl_61, SHl_62, SHl_63, SHl_64, SHl_65, SHl_66, SHl_67, SHl_68, SHl_69, SHl_70, SHl_71, SHl_72, SHl_73, SHl_74, SHl_75, S_X8_advances, S_X8_isWell]
  by_cases h8 : 0 ≤ σ 58 8
  · rw [if_pos h8] at hq
    (repeat' (first | apply And.intro | intro _)) <;> first | omega | exact hq | (rw [if_pos (by omega)] at hq; exact hq) | (rw [if_neg (by omega)] at hq; exact hq) | (repeat (first | rw [if_pos (by omega)] at hq | rw [if_neg (by omega)] at hq)) <;> exact hq | assumption | exact R32_of _
  · rw [if_neg h8] at hq
    by_cases h0 : t = 0
    · rw [if_pos h0] at hq
      (repeat' (first | apply And.intro | intro _)) <;> first | omega | exact hq | (rw [if_pos (by omega)] at hq; exact hq) | (rw [if_neg (by omega)] at hq; exact hq) | (repeat (first | rw [if_pos (by omega)] at hq | rw [if_neg (by omega)] at hq)) <;> exact hq | assumption | exact R32_of _
    · rw [if_neg h0] at hq
      obtain ⟨ha, hq⟩ := hq
      (repeat' (first | exact hT | exact hq | exact hq _ ‹_› ‹_› | apply And.intro | intro _)) <;> omega
def S_X8_figure : MSpec := fun a σ Q => match a with
  | [.inr (.inl 58), .inl lo, .inl hi] => rtk σ ∧ R32 (σ 58 8) ∧ R32 (σ 58 11) ∧ R32 (σ 58 12) ∧ R32 lo ∧ R32 hi ∧ (if 0 ≤ σ 58 8 then Q (some (.inl 0)) σ else if ¬ σ 58 11 = 2 then Q (some (.inl 0)) (hset (hset σ 58 8 (σ 58 10)) 58 7 1) else if ¬ (lo ≤ σ 58 12 ∧ σ 58 12 ≤ hi) then Q (some (.inl 0)) (hset (hset σ 58 8 (σ 58 10)) 58 7 2) else (0 ≤ σ 58 9 ∧ σ 58 9 ≤ σ 58 6) ∧ ∀ τ, adP σ τ → ldP (σ 63) (rL σ) τ (σ 58 9).toNat → Q (some (.inl (σ 58 12))) τ)
  | _ => False
theorem rc_X8_figure : ∀ a σ Q, S_X8_figure a σ Q → ∃ (p : Nat) (r : List AV), a = .inr (.inl p) :: r ∧ p < 76 ∧ (SH p).1 = 4 ∧ (SH p).2.1 = 7 := by
  intro a σ Q h
  unfold S_X8_figure at h
  split at h
  · exact ⟨58, _, rfl, by decide, rfl, rfl⟩
  · exact h.elim
def mT_X8_figure (i : Nat) : Option (Nat × Bool × MSpec) := match i with
  | 68 => some (3, false, S_X8_in)
  | 116 => some (1, true, S_X8_isWell)
  | 126 => some (3, true, S_X8_takes)
  | _ => none
theorem mT_X8_figure_ok {l : Launch} {n : Nat} (hn : 3 ≤ n) : ∀ i e, mT_X8_figure i = some e → mV l (rmOf n) RX8 i e := by
  intro i e h
  unfold mT_X8_figure at h
  split at h
  · cases h; exact mvS (lv := 0) mw_X8_in (by omega) (by decide) (by decide +kernel) (Or.inl (gtm 831 (by decide +kernel) (by decide +kernel))) ok_X8_in
  · cases h; exact mvI (lv := 0) (ci := 7) (T := TX8) (N := 28) mw_X8_isWell rfl (by omega) (by decide) (by decide +kernel) (gtm 888 (by decide +kernel) (by decide +kernel)) rc_X8_isWell ok_X8_isWell
  · cases h; exact mvI (lv := 2) (ci := 7) (T := TX8) (N := 28) mw_X8_takes rfl (by omega) (by decide) (by decide +kernel) (gtm 884 (by decide +kernel) (by decide +kernel)) rc_X8_takes ok_X8_takes
  · cases h
set_option maxRecDepth 100000 in
set_option maxHeartbeats 4000000 in
theorem ok_X8_figure : ∀ l n, 3 ≤ n → ∀ a σ Q, S_X8_figure a σ Q → AM l n yX8_figure cX8_figure 3 (some .int) a σ Q := by
  intro l n hn a σ Q hS
  unfold S_X8_figure at hS
  split at hS
  rotate_left
  · exact hS.elim
  rename_i lo hi
  obtain ⟨hT, ⟨r1, r2⟩, ⟨a1, a2⟩, ⟨b1, b2⟩, ⟨c1, c2⟩, ⟨d1, d2⟩, hq⟩ := hS
  refine am_ofF 1 cpX8 mT_X8_figure (plainFor_of_name (by decide +kernel)) (rfl) (Nat.le_of_ble_eq_true rfl) (cpX8_ok) (mT_X8_figure_ok hn) (fun K hK => ?_)
  refine hK (fun _ => false) 200 _ _ _ _ ?_
  simp only [↓wp, ↓stp, ilen, lnth, st1, st2, nolong, nohead, rnth, ↓gfX, ↓pfX, gfV, pfV, cpF, cpP, cndZ, ↓tgo, ↓tsw, ↓lsw, ↓ldI, ↓ldA, ↓ldL, ↓stI, ↓stA, ↓stL, ↓bin, ↓binD, ↓binL, ↓binDL, ↓una, ↓acV, ↓acK, ↓acpy, ↓inv, entL, nones, List.length_cons, List.length_nil, List.take, List.drop, List.reverse_cons, List.reverse_nil, List.nil_append, List.cons_append, Option.toList_some, Option.toList_none, Nat.reduceAdd, Nat.reduceSub, Nat.reduceLT, Nat.reduceEqDiff, Fin.isValue, aTL, aSZ, Int.toNat_natCast, hset_same, hset_o, hset_s, hset_row, ne_eq, Nat.reduceBEq, beq_self_eq_true, Fin.val_zero, Fin.val_one, fin0, fin1, fin2, fin3, Nat.le_refl, Nat.reduceLeDiff, Nat.zero_le, Int.reduceAdd, Int.reduceNeg, Int.reduceLE, Int.reduceLT, Int.reduceToNat, Int.reduceMul, Int.cast_ofNat_Int, Nat.reduceMod, ↓reduceIte, if_true, if_false, and_true, true_and, or_true, true_or, false_or, or_false, and_self, not_true_eq_false, not_false_eq_true, Bool.false_eq_true, reduceCtorEq, false_implies, true_implies, implies_true, and_false, false_and, dX8_figure_0, dX8_figure_1, dX8_figure_4, dX8_figure_7, dX8_figure_8, dX8_figure_11, dX8_figure_12, dX8_figure_15, dX8_figure_16, dX8_figure_17, dX8_figure_18, dX8_figure_21, dX8_figure_22, dX8_figure_23, dX8_figure_24, dX8_figure_27, dX8_figure_28, dX8_figure_29, dX8_figure_32, dX8_figure_33, dX8_figure_36, cpX8, mT_X8_figure, SHl_58, SHl_59, SHl_60, SHl_61, SHl_62, SHl_63, SHl_64, SHl_65, SHl_66, SHl_67, SHl_68, SHl_69, SHl_70, SHl_71, SHl_72, SHl_73, SHl_74, SHl_75, S_X8_in, S_X8_isWell, S_X8_takes]
  by_cases h8 : 0 ≤ σ 58 8
  · rw [if_pos h8] at hq
    simp only [if_pos h8, if_neg (show ¬ σ 58 8 < 0 by omega)]
    (repeat' (first | exact hT | exact hq | apply And.intro | intro _)) <;> first | omega | (split <;> first | exact Or.inl rfl | exact Or.inr rfl)
  · rw [if_neg h8] at hq
    simp only [if_neg h8, if_pos (show σ 58 8 < 0 by omega)]
    by_cases h2 : σ 58 11 = 2
    · rw [if_neg (fun z => z h2)] at hq
      by_cases hb : lo ≤ σ 58 12 ∧ σ 58 12 ≤ hi
      · rw [if_neg (fun z => z hb)] at hq
        simp only [if_pos hb]
        (repeat' (first | exact hT | exact hq | exact hq.2 | exact hq.2 _ ‹_› ‹_› | apply And.intro | intro _)) <;> first | omega | (simp; done)
      · rw [if_pos hb] at hq
        simp only [if_neg hb]
        (repeat' (first | exact hT | exact hq | apply And.intro | intro _)) <;> first | omega | (simp; done)
    · rw [if_pos h2] at hq
      (repeat' (first | exact hT | exact hq | apply And.intro | intro _)) <;> first | omega | (simp; done)
theorem tkT_set {B : Nat → Int} {L p : Nat} : tkT B L p = -1 ∨ tkT B L p = -2 ∨ tkT B L p = -3 ∨ tkT B L p = 44 ∨ tkT B L p = 59 ∨ (97 ≤ tkT B L p ∧ tkT B L p ≤ 122) := by
  unfold tkT
  (repeat' split) <;> omega
theorem rfT_1 {t : Int} : rfT t = 1 ↔ (t ≠ -1 ∧ t ≠ -2 ∧ t ≠ -3 ∧ t ≠ 44 ∧ t ≠ 59) := by
  unfold rfT
  (repeat' split) <;> omega
theorem rfT_4 {t : Int} : rfT t = 4 ↔ t = 59 := by
  unfold rfT
  (repeat' split) <;> omega
theorem rfT_3 {t : Int} : rfT t = 3 ↔ t = 44 := by
  unfold rfT
  (repeat' split) <;> omega
theorem rfT_2 {t : Int} : rfT t = 2 ↔ t = -3 := by
  unfold rfT
  (repeat' split) <;> omega
theorem rfT_0 {t : Int} : rfT t = 0 ↔ t = -1 := by
  unfold rfT
  (repeat' split) <;> omega
theorem rfT_b (t : Int) : 0 ≤ rfT t ∧ rfT t ≤ 5 := by
  unfold rfT
  (repeat' split) <;> omega
/-- 58 alone, and of it only what reading needs -/
def adX (σ τ : HP) : Prop := only σ τ (fun q => q = 58) ∧ ∀ j, j < 7 ∨ 12 < j → τ 58 j = σ 58 j
def S_X8_marks : MSpec := fun a σ Q => match a with
  | [.inr (.inl 58), .inl c] => (c = 98 ∨ c = 102) ∧ rtk σ ∧ R32 (σ 58 8) ∧ R32 (σ 58 11) ∧ R32 (σ 58 12) ∧ (if 0 ≤ σ 58 8 then Q (some (.inl 0)) σ else ∃ p, ldP (σ 63) (rL σ) σ p ∧ (if ¬ tkT (σ 63) (rL σ) p = c then Q (some (.inl 0)) σ else
      (∀ τ, adX σ τ → ¬ tkT (σ 63) (rL σ) (p + tkW (σ 63) (rL σ) p) = 59 → τ 58 8 = ((p + tkW (σ 63) (rL σ) p : Nat) : Int) → τ 58 7 = 1 → R32 (τ 58 11) → R32 (τ 58 12) → Q (some (.inl 1)) τ) ∧
      (∀ τ, adX σ τ → tkT (σ 63) (rL σ) (p + tkW (σ 63) (rL σ) p) = 59 → τ 58 8 = σ 58 8 → τ 58 7 = σ 58 7 → ldP (σ 63) (rL σ) τ (p + tkW (σ 63) (rL σ) p + tkW (σ 63) (rL σ) (p + tkW (σ 63) (rL σ) p)) → Q (some (.inl 1)) τ)))
  | _ => False
theorem rc_X8_marks : ∀ a σ Q, S_X8_marks a σ Q → ∃ (p : Nat) (r : List AV), a = .inr (.inl p) :: r ∧ p < 76 ∧ (SH p).1 = 4 ∧ (SH p).2.1 = 7 := by
  intro a σ Q h
  unfold S_X8_marks at h
  split at h
  · exact ⟨58, _, rfl, by decide, rfl, rfl⟩
  · exact h.elim
def mT_X8_marks (i : Nat) : Option (Nat × Bool × MSpec) := match i with
  | 126 => some (3, true, S_X8_takes)
  | 136 => some (2, true, S_X8_isLetter)
  | _ => none
theorem mT_X8_marks_ok {l : Launch} {n : Nat} (hn : 3 ≤ n) : ∀ i e, mT_X8_marks i = some e → mV l (rmOf n) RX8 i e := by
  intro i e h
  unfold mT_X8_marks at h
  split at h
  · cases h; exact mvI (lv := 2) (ci := 7) (T := TX8) (N := 28) mw_X8_takes rfl (by omega) (by decide) (by decide +kernel) (gtm 884 (by decide +kernel) (by decide +kernel)) rc_X8_takes ok_X8_takes
  · cases h; exact mvI (lv := 1) (ci := 7) (T := TX8) (N := 28) mw_X8_isLetter rfl (by omega) (by decide) (by decide +kernel) (gtm 907 (by decide +kernel) (by decide +kernel)) rc_X8_isLetter ok_X8_isLetter
  · cases h
set_option maxRecDepth 100000 in
set_option maxHeartbeats 4000000 in
theorem ok_X8_marks : ∀ l n, 3 ≤ n → ∀ a σ Q, S_X8_marks a σ Q → AM l n yX8_marks cX8_marks 3 (some .boolean) a σ Q := by
  intro l n hn a σ Q hS
  unfold S_X8_marks at hS
  split at hS
  rotate_left
  · exact hS.elim
  rename_i c
  obtain ⟨hc, hT, ⟨r1, r2⟩, hr11, hr12, hq⟩ := hS
  refine am_ofF 2 cpX8 mT_X8_marks (plainFor_of_name (by decide +kernel)) (rfl) (Nat.le_of_ble_eq_true rfl) (cpX8_ok) (mT_X8_marks_ok hn) (fun K hK => ?_)
  refine hK (fun _ => false) 200 _ _ _ _ ?_
  simp only [↓wp, ↓stp, ilen, lnth, st1, st2, nolong, nohead, rnth, ↓gfX, ↓pfX, gfV, pfV, cpF, cpP, cndZ, ↓tgo, ↓tsw, ↓lsw, ↓ldI, ↓ldA, ↓ldL, ↓stI, ↓stA, ↓stL, ↓bin, ↓binD, ↓binL, ↓binDL, ↓una, ↓acV, ↓acK, ↓acpy, ↓inv, entL, nones, List.length_cons, List.length_nil, List.take, List.drop, List.reverse_cons, List.reverse_nil, List.nil_append, List.cons_append, Option.toList_some, Option.toList_none, Nat.reduceAdd, Nat.reduceSub, Nat.reduceLT, Nat.reduceEqDiff, Fin.isValue, aTL, aSZ, Int.toNat_natCast, hset_same, hset_o, hset_s, hset_row, ne_eq, Nat.reduceBEq, beq_self_eq_true, Fin.val_zero, Fin.val_one, fin0, fin1, fin2, fin3, Nat.le_refl, Nat.reduceLeDiff, Nat.zero_le, Int.reduceAdd, Int.reduceNeg, Int.reduceLE, Int.reduceLT, Int.reduceToNat, Int.reduceMul, Int.cast_ofNat_Int, Nat.reduceMod, ↓reduceIte, if_true, if_false, and_true, true_and, or_true, true_or, false_or, or_false, and_self, not_true_eq_false, not_false_eq_true, Bool.false_eq_true, reduceCtorEq, false_implies, true_implies, implies_true, and_false, false_and, dX8_marks_0, dX8_marks_1, dX8_marks_2, dX8_marks_5, dX8_marks_6, dX8_marks_7, dX8_marks_10, dX8_marks_11, dX8_marks_12, dX8_marks_13, dX8_marks_16, dX8_marks_17, dX8_marks_18, dX8_marks_19, dX8_marks_22, dX8_marks_23, dX8_marks_26, dX8_marks_27, dX8_marks_30, dX8_marks_31, dX8_marks_32, dX8_marks_35, dX8_marks_36, dX8_marks_37, cpX8, mT_X8_marks, SHl_58, SHl_59, SHl_60, SHl_61, SHl_62, SHl_63, SHl_64, SHl_65, SHl_66, SHl_67, SHl_68, SHl_69, SHl_70, SHl_71, SHl_72, SHl_73, SHl_74, SHl_75, S_X8_isLetter, S_X8_takes]
  obtain ⟨r3, r4⟩ := id hr11
  obtain ⟨r5, r6⟩ := id hr12
  obtain ⟨B, hB⟩ : ∃ B, B = σ 63 := ⟨_, rfl⟩
  obtain ⟨L, hL⟩ : ∃ L, L = rL σ := ⟨_, rfl⟩
  rw [← hB, ← hL] at hq
  obtain ⟨t1, t2⟩ := id hT
  have hL' : (L : Int) = σ 58 6 := by rw [hL]; unfold rL; omega
  by_cases h8 : 0 ≤ σ 58 8
  · rw [if_pos h8] at hq
    rw [if_neg (show ¬ (σ 58 8 < 0 ∧ σ 58 11 = 1 ∧ σ 58 12 = c) by omega)]
    (repeat' (first | exact hT | exact hq | apply And.intro | intro _)) <;> first | omega | (simp_all; done)
  rw [if_neg h8] at hq
  obtain ⟨p, hl, hq⟩ := hq
  obtain ⟨l0, l10, l11, l3, lT, lb, l9⟩ := id hl
  have hs := tkT_set (B := B) (L := L) (p := p)
  have hfb := rfT_b (tkT B L p)
  have hcond : (σ 58 8 < 0 ∧ σ 58 11 = 1 ∧ σ 58 12 = c) ↔ tkT B L p = c := by
    rw [l11, rfT_1]
    constructor
    · intro ⟨z1, z2, z3⟩
      have := lT (by omega)
      omega
    · intro z
      have := lT (by omega)
      omega
  by_cases hk : ¬ tkT B L p = c
  · rw [if_pos hk] at hq
    rw [if_neg (fun z => hk (hcond.mp z))]
    (repeat' (first | exact hT | exact hq | apply And.intro | intro _)) <;> first | omega | (simp_all; done)
  · rw [if_neg hk] at hq
    obtain ⟨q1, q2⟩ := hq
    rw [if_pos (hcond.mpr (by omega))]
    have hne : tkT B L p ≠ -1 := by omega
    have hW := tkW_le hne
    have e9 := l9 (by omega) hne
    rw [e9, ← hB, ← hL, if_neg h8]
    generalize hp1 : p + tkW B L p = p1 at *
    have hfin : ∀ τ, adP σ τ → ldP B L τ p1 → rtk τ ∧ τ 63 = B ∧ rL τ = L ∧ τ 58 8 = σ 58 8 ∧ τ 58 7 = σ 58 7 ∧ τ 58 6 = σ 58 6 ∧ R32 (τ 58 11) ∧ (¬ τ 58 11 = 4 → Q (some (.inl 1)) (hset (hset τ 58 8 (τ 58 10)) 58 7 1)) ∧ (τ 58 11 = 4 → (0 ≤ τ 58 9 ∧ τ 58 9 ≤ τ 58 6) ∧ ∀ ρ, adP τ ρ → ldP B L ρ (τ 58 9).toNat → Q (some (.inl 1)) ρ) := by
      intro τ g1 g2
      obtain ⟨k1, k2, k3, k4, k5⟩ := adP_k g1
      obtain ⟨m0, m10, m11, m3, mT, mb, m9⟩ := id g2
      have hfb := rfT_b (tkT B L p1)
      have k6 : τ 58 6 = σ 58 6 := g1.2 6 (by omega)
      have r11 : R32 (τ 58 11) := by rw [m11]; exact ⟨by omega, by omega⟩
      refine ⟨k5 hT, by rw [k1, hB], by rw [k2, hL], k3, k4, k6, r11, fun z => ?_, fun z => ?_⟩
      · rw [m11, rfT_4] at z
        refine q1 _ ⟨only_set (only_set g1.1 rfl) rfl, fun j hj => by rw [hset_s (by omega), hset_s (by omega), g1.2 j (by omega)]⟩ z ?_ hset_same ?_ ?_
        · rw [hset_s (by decide), hset_same, m10]
        · rw [hset_s (by decide), hset_s (by decide)]
          exact r11
        · rw [hset_s (by decide), hset_s (by decide)]
          exact ⟨by omega, by omega⟩
      · rw [m11, rfT_4] at z
        have hne1 : tkT B L p1 ≠ -1 := by omega
        have hW1 := tkW_le hne1
        have e91 := m9 (by omega) hne1
        rw [e91, Int.toNat_natCast]
        refine ⟨by omega, fun ρ g3 g4 => ?_⟩
        obtain ⟨k1', k2', k3', k4', k5'⟩ := adP_k g3
        have g5 := adP_tr g1 g3
        exact q2 ρ ⟨g5.1, fun j hj => g5.2 j (by omega)⟩ z (k3'.trans k3) (k4'.trans k4) g4
    refine ⟨⟨by omega, by omega⟩, hr11, hr12, ⟨by omega, by omega⟩, ⟨by decide, by decide⟩, fun z => absurd z (by decide), fun _ => ⟨hT, ⟨by omega, by omega⟩, by omega, fun τ g1 g2 => ?_⟩⟩
    rw [Int.toNat_natCast] at g2
    obtain ⟨x1, x2, x3, x4, x5, x6, x7, f1, f2⟩ := hfin τ g1 g2
    refine ⟨x7, ⟨by decide, by decide⟩, fun z => ⟨x1, by rw [x4]; exact ⟨by omega, by omega⟩, ?_⟩, fun z => ⟨x1, by rw [x4]; exact ⟨by omega, by omega⟩, ?_⟩⟩
    · rw [if_neg (by omega)]
      exact ⟨Or.inr rfl, f1 z⟩
    · rw [if_neg (by omega), if_neg (by decide)]
      have := f2 (by omega)
      rw [x2, x3]
      exact ⟨this.1, fun ρ y1 y2 => ⟨Or.inr rfl, this.2 ρ y1 y2⟩⟩
