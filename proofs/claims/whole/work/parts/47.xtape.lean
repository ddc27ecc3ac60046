/-! ===== the class: the tape ===== -/
def tpk (σ : HP) : Prop := (0 ≤ σ 5 1 ∧ σ 5 1 ≤ 130) ∧ ∀ j : Nat, j < 130 → 0 ≤ σ 6 j ∧ σ 6 j ≤ 255
def tL (σ : HP) : Nat := (σ 5 1).toNat
def S_X6_isFigure : MSpec := fun a σ Q => match a with
  | [.inr (.inl 5), .inl i] => tpk σ ∧ (0 ≤ i ∧ i ≤ 140) ∧ Q (some (.inl (if isDg (σ 6) (tL σ) i.toNat then 1 else 0))) σ
  | _ => False
theorem rc_X6_isFigure : ∀ a σ Q, S_X6_isFigure a σ Q → ∃ (p : Nat) (r : List AV), a = .inr (.inl p) :: r ∧ p < 76 ∧ (SH p).1 = 4 ∧ (SH p).2.1 = 5 := by
  intro a σ Q h
  unfold S_X6_isFigure at h
  split at h
  · exact ⟨5, _, rfl, by decide, rfl, rfl⟩
  · exact h.elim
def mT_X6_isFigure (i : Nat) : Option (Nat × Bool × MSpec) := match i with
  | _ => none
theorem mT_X6_isFigure_ok {l : Launch} {n : Nat} (hn : 0 ≤ n) : ∀ i e, mT_X6_isFigure i = some e → mV l (rmOf n) RX6 i e := by
  intro i e h
  unfold mT_X6_isFigure at h
  split at h
  · cases h
set_option maxRecDepth 100000 in
set_option maxHeartbeats 4000000 in
theorem ok_X6_isFigure : ∀ l n, 0 ≤ n → ∀ a σ Q, S_X6_isFigure a σ Q → AM l n yX6_isFigure cX6_isFigure 2 (some .boolean) a σ Q := by
  intro l n hn a σ Q hS
  unfold S_X6_isFigure at hS
  split at hS
  rotate_left
  · exact hS.elim
  rename_i i
  obtain ⟨⟨h1, h2⟩, h3, hq⟩ := hS
  refine am_ofF 2 cpX6 mT_X6_isFigure (plainFor_of_name (by decide +kernel)) (rfl) (Nat.le_of_ble_eq_true rfl) (cpX6_ok) (mT_X6_isFigure_ok hn) (fun K hK => ?_)
  refine hK (fun _ => false) 200 _ _ _ _ ?_
  simp only [↓wp, ↓stp, ilen, lnth, st1, st2, nolong, nohead, rnth, ↓gfX, ↓pfX, gfV, pfV, cpF, cpP, cndZ, ↓tgo, ↓tsw, ↓lsw, ↓ldI, ↓ldA, ↓ldL, ↓stI, ↓stA, ↓stL, ↓bin, ↓binD, ↓binL, ↓binDL, ↓una, ↓acV, ↓acK, ↓acpy, ↓inv, entL, nones, List.length_cons, List.length_nil, List.take, List.drop, List.reverse_cons, List.reverse_nil, List.nil_append, List.cons_append, Option.toList_some, Option.toList_none, Nat.reduceAdd, Nat.reduceSub, Nat.reduceLT, Nat.reduceEqDiff, Fin.isValue, aTL, aSZ, Int.toNat_natCast, hset_same, hset_o, hset_s, hset_row, ne_eq, Nat.reduceBEq, beq_self_eq_true, Fin.val_zero, Fin.val_one, fin0, fin1, fin2, fin3, Nat.le_refl, Nat.reduceLeDiff, Nat.zero_le, Int.reduceAdd, Int.reduceNeg, Int.reduceLE, Int.reduceLT, Int.reduceToNat, Int.reduceMul, Int.cast_ofNat_Int, Nat.reduceMod, ↓reduceIte, if_true, if_false, and_true, true_and, or_true, true_or, false_or, or_false, and_self, not_true_eq_false, not_false_eq_true, Bool.false_eq_true, reduceCtorEq, false_implies, true_implies, implies_true, and_false, false_and, dX6_isFigure_0, dX6_isFigure_1, dX6_isFigure_2, dX6_isFigure_5, dX6_isFigure_8, dX6_isFigure_9, dX6_isFigure_12, dX6_isFigure_15, dX6_isFigure_16, dX6_isFigure_19, dX6_isFigure_20, dX6_isFigure_21, dX6_isFigure_23, dX6_isFigure_26, dX6_isFigure_27, dX6_isFigure_30, dX6_isFigure_31, dX6_isFigure_32, dX6_isFigure_34, dX6_isFigure_37, dX6_isFigure_38, dX6_isFigure_41, dX6_isFigure_42, cpX6, mT_X6_isFigure, SHl_0, SHl_1, SHl_2, SHl_3, SHl_4, SHl_5, SHl_6, SHl_7, SHl_8, SHl_9, SHl_10, SHl_11, SHl_12, SHl_13, SHl_14, SHl_15, SHl_16, SHl_17, SHl_18, SHl_19, SHl_20, SHl_21, SHl_22, SHl_23, SHl_24, SHl_25, SHl_26, SHl_27, SHl_28, SHl_29, SHl_30, SHl_31, SHl_32, SHl_33, SHl_34, SHl_35, SHl_36, SHl_37, SHl_38, SHl_39, SHl_40, SHl_41, SHl_42, SHl_43, SHl_44, SHl_45, SHl_46, SHl_47, SHl_48, SHl_49, SHl_50, SHl_51, SHl_52, SHl_53, SHl_54, SHl_55, SHl_56, SHl_57]
  unfold tL at hq
  by_cases hi : i < 130
  · have h4 := h2 i.toNat (by omega)
    (repeat' (first | apply And.intro | intro _)) <;> first | omega | (rw [if_pos (by unfold isDg; omega)] at hq; exact hq) | (rw [if_neg (by unfold isDg; omega)] at hq; exact hq)
  · (repeat' (first | apply And.intro | intro _)) <;> first | omega | (rw [if_neg (by unfold isDg; omega)] at hq; exact hq)
def tkP (σ τ : HP) : Prop := only σ τ (fun q => q = 5) ∧ ∀ j, j ≠ 3 → j ≠ 4 → j ≠ 5 → τ 5 j = σ 5 j
def S_X6_takeNumber : MSpec := fun a σ Q => match a with
  | [.inr (.inl 5)] => tpk σ ∧ (0 ≤ σ 5 2 ∧ σ 5 2 < σ 5 1) ∧ σ 5 4 = 1 ∧ isDg (σ 6) (tL σ) (σ 5 2).toNat ∧ ∀ τ, tkP σ τ → τ 5 3 = tkT (σ 6) (tL σ) (σ 5 2).toNat → τ 5 4 = tkW (σ 6) (tL σ) (σ 5 2).toNat → τ 5 5 = tkV (σ 6) (tL σ) (σ 5 2).toNat → Q none τ
  | _ => False
theorem rc_X6_takeNumber : ∀ a σ Q, S_X6_takeNumber a σ Q → ∃ (p : Nat) (r : List AV), a = .inr (.inl p) :: r ∧ p < 76 ∧ (SH p).1 = 4 ∧ (SH p).2.1 = 5 := by
  intro a σ Q h
  unfold S_X6_takeNumber at h
  split at h
  · exact ⟨5, _, rfl, by decide, rfl, rfl⟩
  · exact h.elim
def mT_X6_takeNumber (i : Nat) : Option (Nat × Bool × MSpec) := match i with
  | 50 => some (2, true, S_X6_isFigure)
  | _ => none
theorem mT_X6_takeNumber_ok {l : Launch} {n : Nat} (hn : 1 ≤ n) : ∀ i e, mT_X6_takeNumber i = some e → mV l (rmOf n) RX6 i e := by
  intro i e h
  unfold mT_X6_takeNumber at h
  split at h
  · cases h; exact mvI (lv := 0) (ci := 5) (T := TX6) (N := 10) mw_X6_isFigure rfl (by omega) (by decide) (by decide +kernel) (gtm 355 (by decide +kernel) (by decide +kernel)) rc_X6_isFigure ok_X6_isFigure
  · cases h
set_option maxRecDepth 100000 in
set_option maxHeartbeats 4000000 in
theorem ok_X6_takeNumber : ∀ l n, 1 ≤ n → ∀ a σ Q, S_X6_takeNumber a σ Q → AM l n yX6_takeNumber cX6_takeNumber 1 none a σ Q := by
  intro l n hn a σ Q hS
  unfold S_X6_takeNumber at hS
  split at hS
  rotate_left
  · exact hS.elim
  obtain ⟨hT, h3, h4, hD, hq⟩ := hS
  refine am_ofF 0 cpX6 mT_X6_takeNumber (plainFor_of_name (by decide +kernel)) (rfl) (Nat.le_of_ble_eq_true rfl) (cpX6_ok) (mT_X6_takeNumber_ok hn) (fun K hK => ?_)
  refine hK (fun _ => false) 200 _ _ _ _ ?_
  simp only [↓wp, ↓stp, ilen, lnth, st1, st2, nolong, nohead, rnth, ↓gfX, ↓pfX, gfV, pfV, cpF, cpP, cndZ, ↓tgo, ↓tsw, ↓lsw, ↓ldI, ↓ldA, ↓ldL, ↓stI, ↓stA, ↓stL, ↓bin, ↓binD, ↓binL, ↓binDL, ↓una, ↓acV, ↓acK, ↓acpy, ↓inv, entL, nones, List.length_cons, List.length_nil, List.take, List.drop, List.reverse_cons, List.reverse_nil, List.nil_append, List.cons_append, Option.toList_some, Option.toList_none, Nat.reduceAdd, Nat.reduceSub, Nat.reduceLT, Nat.reduceEqDiff, Fin.isValue, aTL, aSZ, Int.toNat_natCast, hset_same, hset_o, hset_s, hset_row, ne_eq, Nat.reduceBEq, beq_self_eq_true, Fin.val_zero, Fin.val_one, fin0, fin1, fin2, fin3, Nat.le_refl, Nat.reduceLeDiff, Nat.zero_le, Int.reduceAdd, Int.reduceNeg, Int.reduceLE, Int.reduceLT, Int.reduceToNat, Int.reduceMul, Int.cast_ofNat_Int, Nat.reduceMod, ↓reduceIte, if_true, if_false, and_true, true_and, or_true, true_or, false_or, or_false, and_self, not_true_eq_false, not_false_eq_true, Bool.false_eq_true, reduceCtorEq, false_implies, true_implies, implies_true, and_false, false_and, dX6_takeNumber_0, dX6_takeNumber_1, dX6_takeNumber_2, dX6_takeNumber_5, dX6_takeNumber_6, dX6_takeNumber_9, dX6_takeNumber_10, dX6_takeNumber_12, dX6_takeNumber_13, dX6_takeNumber_16, dX6_takeNumber_17, dX6_takeNumber_19, dX6_takeNumber_22, dX6_takeNumber_23, dX6_takeNumber_24, dX6_takeNumber_27, dX6_takeNumber_28, dX6_takeNumber_29, dX6_takeNumber_32, dX6_takeNumber_35, dX6_takeNumber_36, dX6_takeNumber_37, dX6_takeNumber_40, dX6_takeNumber_41, dX6_takeNumber_43, dX6_takeNumber_44, dX6_takeNumber_47, dX6_takeNumber_48, dX6_takeNumber_49, dX6_takeNumber_52, dX6_takeNumber_53, dX6_takeNumber_56, dX6_takeNumber_57, dX6_takeNumber_58, dX6_takeNumber_59, dX6_takeNumber_60, dX6_takeNumber_62, dX6_takeNumber_63, dX6_takeNumber_66, dX6_takeNumber_67, dX6_takeNumber_68, dX6_takeNumber_71, dX6_takeNumber_72, dX6_takeNumber_73, dX6_takeNumber_76, dX6_takeNumber_79, dX6_takeNumber_80, dX6_takeNumber_82, dX6_takeNumber_85, cpX6, mT_X6_takeNumber, SHl_0, SHl_1, SHl_2, SHl_3, SHl_4, SHl_5, SHl_6, SHl_7, SHl_8, SHl_9, SHl_10, SHl_11, SHl_12, SHl_13, SHl_14, SHl_15, SHl_16, SHl_17, SHl_18, SHl_19, SHl_20, SHl_21, SHl_22, SHl_23, SHl_24, SHl_25, SHl_26, SHl_27, SHl_28, SHl_29, SHl_30, SHl_31, SHl_32, SHl_33, SHl_34, SHl_35, SHl_36, SHl_37, SHl_38, SHl_39, SHl_40, SHl_41, SHl_42, SHl_43, SHl_44, SHl_45, SHl_46, SHl_47, SHl_48, SHl_49, SHl_50, SHl_51, SHl_52, SHl_53, SHl_54, SHl_55, SHl_56, SHl_57, S_X6_isFigure]
  obtain ⟨h1, h2⟩ := id hT
  obtain ⟨p, hp⟩ : ∃ p : Nat, σ 5 2 = p := ⟨(σ 5 2).toNat, by omega⟩
  have hL : (tL σ : Int) = σ 5 1 := by unfold tL; omega
  have hTn : ∀ ρ : HP, ρ 5 1 = σ 5 1 → ρ 6 = σ 6 → tpk ρ := fun ρ e1 e2 => by unfold tpk; rw [e1, e2]; exact hT
  rw [hp, Int.toNat_natCast] at hD hq
  unfold tkT tkW tkV at hq
  rw [if_neg (by omega), if_pos hD] at hq
  rw [hp]
  simp only [Int.toNat_natCast, show ((p : Int) + 1).toNat = p + 1 by omega, show ((p : Int) + 2).toNat = p + 2 by omega]
  have t1 : tpk (hset (hset σ 5 5 (σ 6 p - 48)) 5 3 (-3)) := hTn _ rfl rfl
  have l1 : tL (hset (hset σ 5 5 (σ 6 p - 48)) 5 3 (-3)) = tL σ := rfl
  have t2 : tpk (hset (hset (hset (hset σ 5 5 (σ 6 p - 48)) 5 3 (-3)) 5 4 2) 5 5 (10 * (σ 6 p - 48) + σ 6 (p + 1) - 48)) := hTn _ rfl rfl
  have l2 : tL (hset (hset (hset (hset σ 5 5 (σ 6 p - 48)) 5 3 (-3)) 5 4 2) 5 5 (10 * (σ 6 p - 48) + σ 6 (p + 1) - 48)) = tL σ := rfl
  rw [l1, l2]
  by_cases d1 : isDg (σ 6) (tL σ) (p + 1)
  · rw [if_pos d1]
    by_cases d2 : isDg (σ 6) (tL σ) (p + 2)
    · rw [if_pos ⟨d1, d2⟩, if_pos ⟨hD, d1⟩, if_pos d1] at hq
      rw [if_pos d2]
      refine ⟨by omega, by omega, t1, by omega, ⟨by omega, by omega⟩, fun q => by omega, fun _ => ⟨by omega, by omega, t2, by omega, ⟨by omega, by omega⟩, fun q => by omega, fun _ => hq _ ⟨?_, ?_⟩ hset_same ?_ ?_⟩⟩
      · exact only_set (only_set (only_set (only_set (only_set (fun q _ => rfl) rfl) rfl) rfl) rfl) rfl
      · intro j j3 j4 j5
        rw [hset_s j3, hset_s j5, hset_s j4, hset_s j3, hset_s j5]
      · rw [hset_s (by decide), hset_s (by decide), hset_same]
        rfl
      · rw [hset_s (by decide), hset_same]
        omega
    · rw [if_neg (fun z => d2 z.2), if_pos ⟨hD, d1⟩, if_pos d1] at hq
      rw [if_neg d2]
      refine ⟨by omega, by omega, t1, by omega, ⟨by omega, by omega⟩, fun q => by omega, fun _ => ⟨by omega, by omega, t2, by omega, ⟨by omega, by omega⟩, fun _ => hq _ ⟨?_, ?_⟩ ?_ ?_ ?_, fun q => by omega⟩⟩
      · exact only_set (only_set (only_set (only_set (fun q _ => rfl) rfl) rfl) rfl) rfl
      · intro j j3 j4 j5
        rw [hset_s j5, hset_s j4, hset_s j3, hset_s j5]
      · rw [hset_s (by decide), hset_s (by decide), hset_same]
      · rw [hset_s (by decide), hset_same]
        rfl
      · rw [hset_same]
        omega
  · rw [if_neg (fun z => d1 z.1), if_neg (fun z => d1 z.2), if_neg d1] at hq
    rw [if_neg d1]
    refine ⟨by omega, by omega, t1, by omega, ⟨by omega, by omega⟩, fun _ => hq _ ⟨?_, ?_⟩ hset_same ?_ ?_, fun q => by omega⟩
    · exact only_set (only_set (fun q _ => rfl) rfl) rfl
    · intro j j3 j4 j5
      rw [hset_s j3, hset_s j5]
    · rw [hset_s (by decide), hset_s (by decide), h4]
      rfl
    · rw [hset_s (by decide), hset_same]
def S_X6_takeToken : MSpec := fun a σ Q => match a with
  | [.inr (.inl 5)] => tpk σ ∧ (0 ≤ σ 5 2 ∧ σ 5 2 ≤ σ 5 1) ∧ ∀ τ, tkP σ τ → τ 5 3 = tkT (σ 6) (tL σ) (σ 5 2).toNat → τ 5 4 = tkW (σ 6) (tL σ) (σ 5 2).toNat → (τ 5 3 = -3 → τ 5 5 = tkV (σ 6) (tL σ) (σ 5 2).toNat) → Q none τ
  | _ => False
theorem rc_X6_takeToken : ∀ a σ Q, S_X6_takeToken a σ Q → ∃ (p : Nat) (r : List AV), a = .inr (.inl p) :: r ∧ p < 76 ∧ (SH p).1 = 4 ∧ (SH p).2.1 = 5 := by
  intro a σ Q h
  unfold S_X6_takeToken at h
  split at h
  · exact ⟨5, _, rfl, by decide, rfl, rfl⟩
  · exact h.elim
def mT_X6_takeToken (i : Nat) : Option (Nat × Bool × MSpec) := match i with
  | 50 => some (2, true, S_X6_isFigure)
  | 54 => some (1, true, S_X6_takeNumber)
  | _ => none
theorem mT_X6_takeToken_ok {l : Launch} {n : Nat} (hn : 2 ≤ n) : ∀ i e, mT_X6_takeToken i = some e → mV l (rmOf n) RX6 i e := by
  intro i e h
  unfold mT_X6_takeToken at h
  split at h
  · cases h; exact mvI (lv := 0) (ci := 5) (T := TX6) (N := 10) mw_X6_isFigure rfl (by omega) (by decide) (by decide +kernel) (gtm 355 (by decide +kernel) (by decide +kernel)) rc_X6_isFigure ok_X6_isFigure
  · cases h; exact mvI (lv := 1) (ci := 5) (T := TX6) (N := 10) mw_X6_takeNumber rfl (by omega) (by decide) (by decide +kernel) (gtm 359 (by decide +kernel) (by decide +kernel)) rc_X6_takeNumber ok_X6_takeNumber
  · cases h
set_option maxRecDepth 100000 in
set_option maxHeartbeats 4000000 in
theorem ok_X6_takeToken : ∀ l n, 2 ≤ n → ∀ a σ Q, S_X6_takeToken a σ Q → AM l n yX6_takeToken cX6_takeToken 3 none a σ Q := by
  intro l n hn a σ Q hS
  unfold S_X6_takeToken at hS
  split at hS
  rotate_left
  · exact hS.elim
  obtain ⟨hT, h3, hq⟩ := hS
  refine am_ofF 0 cpX6 mT_X6_takeToken (plainFor_of_name (by decide +kernel)) (rfl) (Nat.le_of_ble_eq_true rfl) (cpX6_ok) (mT_X6_takeToken_ok hn) (fun K hK => ?_)
  refine hK (fun _ => false) 200 _ _ _ _ ?_
  simp only [↓wp, ↓stp, ilen, lnth, st1, st2, nolong, nohead, rnth, ↓gfX, ↓pfX, gfV, pfV, cpF, cpP, cndZ, ↓tgo, ↓tsw, ↓lsw, ↓ldI, ↓ldA, ↓ldL, ↓stI, ↓stA, ↓stL, ↓bin, ↓binD, ↓binL, ↓binDL, ↓una, ↓acV, ↓acK, ↓acpy, ↓inv, entL, nones, List.length_cons, List.length_nil, List.take, List.drop, List.reverse_cons, List.reverse_nil, List.nil_append, List.cons_append, Option.toList_some, Option.toList_none, Nat.reduceAdd, Nat.reduceSub, Nat.reduceLT, Nat.reduceEqDiff, Fin.isValue, aTL, aSZ, Int.toNat_natCast, hset_same, hset_o, hset_s, hset_row, ne_eq, Nat.reduceBEq, beq_self_eq_true, Fin.val_zero, Fin.val_one, fin0, fin1, fin2, fin3, Nat.le_refl, Nat.reduceLeDiff, Nat.zero_le, Int.reduceAdd, Int.reduceNeg, Int.reduceLE, Int.reduceLT, Int.reduceToNat, Int.reduceMul, Int.cast_ofNat_Int, Nat.reduceMod, ↓reduceIte, if_true, if_false, and_true, true_and, or_true, true_or, false_or, or_false, and_self, not_true_eq_false, not_false_eq_true, Bool.false_eq_true, reduceCtorEq, false_implies, true_implies, implies_true, and_false, false_and, dX6_takeToken_0, dX6_takeToken_1, dX6_takeToken_2, dX6_takeToken_5, dX6_takeToken_6, dX6_takeToken_9, dX6_takeToken_10, dX6_takeToken_13, dX6_takeToken_16, dX6_takeToken_17, dX6_takeToken_18, dX6_takeToken_21, dX6_takeToken_24, dX6_takeToken_25, dX6_takeToken_26, dX6_takeToken_29, dX6_takeToken_32, dX6_takeToken_35, dX6_takeToken_36, dX6_takeToken_39, dX6_takeToken_42, dX6_takeToken_43, dX6_takeToken_46, dX6_takeToken_47, dX6_takeToken_50, dX6_takeToken_51, dX6_takeToken_52, dX6_takeToken_53, dX6_takeToken_55, dX6_takeToken_58, dX6_takeToken_59, dX6_takeToken_61, dX6_takeToken_64, dX6_takeToken_65, dX6_takeToken_67, dX6_takeToken_70, dX6_takeToken_71, dX6_takeToken_73, dX6_takeToken_76, dX6_takeToken_77, dX6_takeToken_80, dX6_takeToken_81, dX6_takeToken_82, dX6_takeToken_83, dX6_takeToken_84, dX6_takeToken_87, dX6_takeToken_88, dX6_takeToken_91, dX6_takeToken_93, dX6_takeToken_96, cpX6, mT_X6_takeToken, SHl_0, SHl_1, SHl_2, SHl_3, SHl_4, SHl_5, SHl_6, SHl_7, SHl_8, SHl_9, SHl_10, SHl_11, SHl_12, SHl_13, SHl_14, SHl_15, SHl_16, SHl_17, SHl_18, SHl_19, SHl_20, SHl_21, SHl_22, SHl_23, SHl_24, SHl_25, SHl_26, SHl_27, SHl_28, SHl_29, SHl_30, SHl_31, SHl_32, SHl_33, SHl_34, SHl_35, SHl_36, SHl_37, SHl_38, SHl_39, SHl_40, SHl_41, SHl_42, SHl_43, SHl_44, SHl_45, SHl_46, SHl_47, SHl_48, SHl_49, SHl_50, SHl_51, SHl_52, SHl_53, SHl_54, SHl_55, SHl_56, SHl_57, S_X6_isFigure, S_X6_takeNumber]
  obtain ⟨h1, h2⟩ := id hT
  obtain ⟨p, hp⟩ : ∃ p : Nat, σ 5 2 = p := ⟨(σ 5 2).toNat, by omega⟩
  have hL : (tL σ : Int) = σ 5 1 := by unfold tL; omega
  have hTn : ∀ ρ : HP, ρ 5 1 = σ 5 1 → ρ 6 = σ 6 → tpk ρ := fun ρ e1 e2 => by unfold tpk; rw [e1, e2]; exact hT
  have t1 : tpk (hset σ 5 4 1) := hTn _ rfl rfl
  have l1 : tL (hset σ 5 4 1) = tL σ := rfl
  rw [hp, Int.toNat_natCast] at hq
  rw [hp, l1]
  simp only [Int.toNat_natCast]
  by_cases he : tL σ ≤ p
  · have e1 : tkT (σ 6) (tL σ) p = -1 := by unfold tkT; rw [if_pos he]
    have e2 : tkW (σ 6) (tL σ) p = 1 := by unfold tkW; rw [if_neg (by omega)]
    rw [e1, e2] at hq
    have hx := hq (hset (hset σ 5 4 1) 5 3 (-1)) ⟨only_set (only_set (fun q _ => rfl) rfl) rfl, fun j j3 j4 j5 => by rw [hset_s j3, hset_s j4]⟩ hset_same (by rw [hset_s (by decide), hset_same]; rfl) (fun h => absurd (hset_same.symm.trans h) (by decide))
    (repeat' (first | exact hx | apply And.intro | intro _)) <;> omega
  · by_cases hd : isDg (σ 6) (tL σ) p
    · rw [if_pos hd]
      have hx : tpk (hset σ 5 4 1) ∧ (0 ≤ (p : Int) ∧ (p : Int) < σ 5 1) ∧ isDg (σ 6) (tL σ) p ∧ ∀ τ, tkP (hset σ 5 4 1) τ → τ 5 3 = tkT (σ 6) (tL σ) p → τ 5 4 = tkW (σ 6) (tL σ) p → τ 5 5 = tkV (σ 6) (tL σ) p → Q none τ := by
        refine ⟨t1, by omega, hd, fun τ g1 g2 g3 g4 => hq τ ⟨fun q hqq => ?_, fun j j3 j4 j5 => ?_⟩ g2 g3 (fun _ => g4)⟩
        · rw [g1.1 q hqq, hset_row hqq]
        · rw [g1.2 j j3 j4 j5, hset_s j4]
      (repeat' (first | exact hx.1 | exact hd | exact hx.2.2.2 | exact hx.2.2.2 _ ‹_› ‹_› ‹_› ‹_› | apply And.intro | intro _)) <;> omega
    · rw [if_neg hd]
      have e2 : tkW (σ 6) (tL σ) p = 1 := by unfold tkW; rw [if_neg (fun z => hd z.1)]
      have hb := h2 p (by omega)
      have e1 : tkT (σ 6) (tL σ) p = if (97 ≤ σ 6 p ∧ σ 6 p ≤ 122) ∨ σ 6 p = 44 ∨ σ 6 p = 59 then σ 6 p else -2 := by unfold tkT; rw [if_neg he, if_neg hd]
      rw [e1, e2] at hq
      have hx : ∀ x, x = (if (97 ≤ σ 6 p ∧ σ 6 p ≤ 122) ∨ σ 6 p = 44 ∨ σ 6 p = 59 then σ 6 p else -2) → Q none (hset (hset σ 5 4 1) 5 3 x) := fun x hx => by
        refine hq _ ⟨only_set (only_set (fun q _ => rfl) rfl) rfl, fun j j3 j4 j5 => by rw [hset_s j3, hset_s j4]⟩ (by rw [hset_same, hx]) (by rw [hset_s (by decide), hset_same]; rfl) (fun h => ?_)
        rw [hset_same, hx] at h
        exfalso
        revert h
        split <;> omega
      (repeat' (first | exact t1 | (refine hx _ ?_; first | (rw [if_pos (by omega)]; done) | (rw [if_neg (by omega)]; done)) | apply And.intro | intro _)) <;> omega
