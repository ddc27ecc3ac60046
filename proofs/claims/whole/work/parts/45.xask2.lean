/-! ===== the class: ask ===== -/
def S_X7_ask : MSpec := fun a σ Q => match a with
  | [.inr (.inl 0), .inl c, .inl w] => R32 c ∧ R32 w ∧ xPre σ ∧ (if ¬ (0 ≤ c ∧ c < σ 7 1) ∨ ¬ (0 ≤ w ∧ w ≤ 1) then Q (some (.inl (-1000001))) σ else ∀ τ, xS σ τ → Q (some (.inl (akA w (vC σ 7 1 c.toNat) c (vC σ 7 5 c.toNat) ((winV (vC σ 7) c.toNat : Int) - 15)))) (pushL 42 0 43 (begS τ (vC σ 7 1 c.toNat) c (vC σ 7 5 c.toNat) ((winV (vC σ 7) c.toNat : Int) - 15)) (akL w (vC σ 7 1 c.toNat))))
  | _ => False
theorem rc_X7_ask : ∀ a σ Q, S_X7_ask a σ Q → ∃ (p : Nat) (r : List AV), a = .inr (.inl p) :: r ∧ p < 76 ∧ (SH p).1 = 4 ∧ (SH p).2.1 = 6 := by
  intro a σ Q h
  unfold S_X7_ask at h
  split at h
  · exact ⟨0, _, rfl, by decide, rfl, rfl⟩
  · exact h.elim
def mT_X7_ask (i : Nat) : Option (Nat × Bool × MSpec) := match i with
  | 161 => some (2, true, S_X7_isChord)
  | 210 => some (1, true, S_X7_settled)
  | 220 => some (2, true, S_X4_sizeOf)
  | 288 => some (6, true, S_X1_begin)
  | _ => none
theorem mT_X7_ask_ok {l : Launch} {n : Nat} (hn : 14 ≤ n) : ∀ i e, mT_X7_ask i = some e → mV l (rmOf n) RX7 i e := by
  intro i e h
  unfold mT_X7_ask at h
  split at h
  · cases h; exact mvI (lv := 0) (ci := 6) (T := TX7) (N := 15) mw_X7_isChord rfl (by omega) (by decide) (by decide +kernel) (gtm 457 (by decide +kernel) (by decide +kernel)) rc_X7_isChord ok_X7_isChord
  · cases h; exact mvI (lv := 4) (ci := 6) (T := TX7) (N := 15) mw_X7_settled rfl (by omega) (by decide) (by decide +kernel) (gtm 528 (by decide +kernel) (by decide +kernel)) rc_X7_settled ok_X7_settled
  · cases h; exact mvI (lv := 0) (ci := 3) (T := TX4) (N := 9) mw_X4_sizeOf rfl (by omega) (by decide) (by decide +kernel) (gtm 592 (by decide +kernel) (by decide +kernel)) rc_X4_sizeOf ok_X4_sizeOf
  · cases h; exact mvI (lv := 13) (ci := 1) (T := TX1) (N := 6) mw_X1_begin rfl (by omega) (by decide) (by decide +kernel) (gtm 699 (by decide +kernel) (by decide +kernel)) rc_X1_begin ok_X1_begin
  · cases h
set_option maxRecDepth 100000 in
set_option maxHeartbeats 4000000 in
theorem ok_X7_ask : ∀ l n, 14 ≤ n → ∀ a σ Q, S_X7_ask a σ Q → AM l n yX7_ask cX7_ask 3 (some .int) a σ Q := by
  intro l n hn a σ Q hS
  unfold S_X7_ask at hS
  split at hS
  rotate_left
  · exact hS.elim
  rename_i c w
  obtain ⟨⟨c1, c2⟩, ⟨w1, w2⟩, hp, hq⟩ := hS
  obtain ⟨v0, v1, v2⟩ := vC_0 σ 7
  obtain ⟨hV, hco, hc⟩ := id hp
  have o2 := hV.2.1
  refine am_ofG 1 cpX7 mT_X7_ask (plainFor_of_name (by decide +kernel)) (rfl) (Nat.le_of_ble_eq_true rfl) (cpX7_ok) (mT_X7_ask_ok hn) (fun K hK hI => ?_)
  by_cases hb : ¬ (0 ≤ c ∧ c < σ 7 1) ∨ ¬ (0 ≤ w ∧ w ≤ 1)
  · rw [if_pos hb] at hq
    refine hK (fun q => q == 20) 100 _ _ _ _ ?_
    simp only [↓wp, ↓stp, ilen, lnth, st1, st2, nolong, nohead, rnth, ↓gfX, ↓pfX, gfV, pfV, cpF, cpP, cndZ, ↓tgo, ↓tsw, ↓lsw, ↓ldI, ↓ldA, ↓ldL, ↓stI, ↓stA, ↓stL, ↓bin, ↓binD, ↓binL, ↓binDL, ↓una, ↓acV, ↓acK, ↓acpy, ↓inv, entL, nones, List.length_cons, List.length_nil, List.take, List.drop, List.reverse_cons, List.reverse_nil, List.nil_append, List.cons_append, Option.toList_some, Option.toList_none, Nat.reduceAdd, Nat.reduceSub, Nat.reduceLT, Nat.reduceEqDiff, Fin.isValue, aTL, aSZ, Int.toNat_natCast, hset_same, hset_o, hset_s, hset_row, ne_eq, Nat.reduceBEq, beq_self_eq_true, Fin.val_zero, Fin.val_one, fin0, fin1, fin2, fin3, Nat.le_refl, Nat.reduceLeDiff, Nat.zero_le, Int.reduceAdd, Int.reduceNeg, Int.reduceLE, Int.reduceLT, Int.reduceToNat, Int.reduceMul, Int.cast_ofNat_Int, Nat.reduceMod, ↓reduceIte, if_true, if_false, and_true, true_and, or_true, true_or, false_or, or_false, and_self, not_true_eq_false, not_false_eq_true, Bool.false_eq_true, reduceCtorEq, false_implies, true_implies, implies_true, and_false, false_and, dX7_ask_0, dX7_ask_1, dX7_ask_2, dX7_ask_5, dX7_ask_8, dX7_ask_9, dX7_ask_12, dX7_ask_13, dX7_ask_14, dX7_ask_17, dX7_ask_19, dX7_ask_20, dX7_ask_21, dX7_ask_24, dX7_ask_25, dX7_ask_26, dX7_ask_29, dX7_ask_32, dX7_ask_33, dX7_ask_34, dX7_ask_35, dX7_ask_36, dX7_ask_39, dX7_ask_40, dX7_ask_43, dX7_ask_44, dX7_ask_47, dX7_ask_50, dX7_ask_51, dX7_ask_52, dX7_ask_55, cpX7, mT_X7_ask, SHl_0, SHl_1, SHl_2, SHl_3, SHl_4, SHl_5, SHl_6, SHl_7, SHl_8, SHl_9, SHl_10, SHl_11, SHl_12, SHl_13, SHl_14, SHl_15, SHl_16, SHl_17, SHl_18, SHl_19, SHl_20, SHl_21, SHl_22, SHl_23, SHl_24, SHl_25, SHl_26, SHl_27, SHl_28, SHl_29, SHl_30, SHl_31, SHl_32, SHl_33, SHl_34, SHl_35, SHl_36, SHl_37, SHl_38, SHl_39, SHl_40, SHl_41, SHl_42, SHl_43, SHl_44, SHl_45, SHl_46, SHl_47, SHl_48, SHl_49, SHl_50, SHl_51, SHl_52, SHl_53, SHl_54, SHl_55, SHl_56, SHl_57, S_X1_begin, S_X4_sizeOf, S_X7_isChord, S_X7_settled]
    (repeat' (first | exact hq | apply And.intro | intro _)) <;> omega
  · rw [if_neg hb] at hq
    have hk := (hV.2.2.2.2.1 c.toNat (by omega)).1
    obtain ⟨e1, e2, e3, e4, e5⟩ := vC_c (σ := σ) (p := 7) (c := c.toNat) (by omega)
    simp only [Nat.reduceAdd] at e1 e5
    rw [show c.toNat + 1 = (c + 1).toNat by omega] at e5
    have mid : K 44 [some (.inr (.inl 0)), some (.inl c), some (.inl w)] [.inr (.inl 0), .inl (vC σ 7 5 c.toNat), .inl c, .inl (vC σ 7 1 c.toNat), .inl w, .inr (.inl 42)] σ := by
      refine hI 44 210 1 S_X7_settled _ _ σ dX7_ask_44 rfl (by simp) (by simp [wid]) ?_
      show S_X7_settled [.inr (.inl 0)] σ _
      refine ⟨hp, by omega, fun τ hτ hbk => ?_⟩
      show K 47 [some (.inr (.inl 0)), some (.inl c), some (.inl w)] [.inr (.inl 14), .inl (vC σ 7 5 c.toNat), .inl c, .inl (vC σ 7 1 c.toNat), .inl w, .inr (.inl 42)] τ
      have hbw : τ 15 c.toNat = (winV (vC σ 7) c.toNat : Int) - 15 := by
        have := hbk.2.2.2.1 c.toNat (by rw [xP_v hτ.1]; unfold ncV; omega)
        rw [xP_v hτ.1] at this
        exact this
      have hq' := hq τ hτ
      rw [← hbw] at hq'
      refine hK (fun q => q == 44) 100 _ _ _ _ ?_
      simp only [↓wp, ↓stp, ilen, lnth, st1, st2, nolong, nohead, rnth, ↓gfX, ↓pfX, gfV, pfV, cpF, cpP, cndZ, ↓tgo, ↓tsw, ↓lsw, ↓ldI, ↓ldA, ↓ldL, ↓stI, ↓stA, ↓stL, ↓bin, ↓binD, ↓binL, ↓binDL, ↓una, ↓acV, ↓acK, ↓acpy, ↓inv, entL, nones, List.length_cons, List.length_nil, List.take, List.drop, List.reverse_cons, List.reverse_nil, List.nil_append, List.cons_append, Option.toList_some, Option.toList_none, Nat.reduceAdd, Nat.reduceSub, Nat.reduceLT, Nat.reduceEqDiff, Fin.isValue, aTL, aSZ, Int.toNat_natCast, hset_same, hset_o, hset_s, hset_row, ne_eq, Nat.reduceBEq, beq_self_eq_true, Fin.val_zero, Fin.val_one, fin0, fin1, fin2, fin3, Nat.le_refl, Nat.reduceLeDiff, Nat.zero_le, Int.reduceAdd, Int.reduceNeg, Int.reduceLE, Int.reduceLT, Int.reduceToNat, Int.reduceMul, Int.cast_ofNat_Int, Nat.reduceMod, ↓reduceIte, if_true, if_false, and_true, true_and, or_true, true_or, false_or, or_false, and_self, not_true_eq_false, not_false_eq_true, Bool.false_eq_true, reduceCtorEq, false_implies, true_implies, implies_true, and_false, false_and, dX7_ask_0, dX7_ask_1, dX7_ask_2, dX7_ask_5, dX7_ask_8, dX7_ask_9, dX7_ask_12, dX7_ask_13, dX7_ask_14, dX7_ask_17, dX7_ask_19, dX7_ask_20, dX7_ask_21, dX7_ask_24, dX7_ask_25, dX7_ask_26, dX7_ask_29, dX7_ask_32, dX7_ask_33, dX7_ask_34, dX7_ask_35, dX7_ask_36, dX7_ask_39, dX7_ask_40, dX7_ask_43, dX7_ask_44, dX7_ask_47, dX7_ask_50, dX7_ask_51, dX7_ask_52, dX7_ask_55, cpX7, mT_X7_ask, SHl_0, SHl_1, SHl_2, SHl_3, SHl_4, SHl_5, SHl_6, SHl_7, SHl_8, SHl_9, SHl_10, SHl_11, SHl_12, SHl_13, SHl_14, SHl_15, SHl_16, SHl_17, SHl_18, SHl_19, SHl_20, SHl_21, SHl_22, SHl_23, SHl_24, SHl_25, SHl_26, SHl_27, SHl_28, SHl_29, SHl_30, SHl_31, SHl_32, SHl_33, SHl_34, SHl_35, SHl_36, SHl_37, SHl_38, SHl_39, SHl_40, SHl_41, SHl_42, SHl_43, SHl_44, SHl_45, SHl_46, SHl_47, SHl_48, SHl_49, SHl_50, SHl_51, SHl_52, SHl_53, SHl_54, SHl_55, SHl_56, SHl_57, S_X1_begin, S_X4_sizeOf, S_X7_isChord, S_X7_settled]
      (repeat' (first | exact hq' | apply And.intro | intro _)) <;> omega
    rw [e1, e5] at mid
    refine hK (fun q => q == 44) 100 _ _ _ _ ?_
    simp only [↓wp, ↓stp, ilen, lnth, st1, st2, nolong, nohead, rnth, ↓gfX, ↓pfX, gfV, pfV, cpF, cpP, cndZ, ↓tgo, ↓tsw, ↓lsw, ↓ldI, ↓ldA, ↓ldL, ↓stI, ↓stA, ↓stL, ↓bin, ↓binD, ↓binL, ↓binDL, ↓una, ↓acV, ↓acK, ↓acpy, ↓inv, entL, nones, List.length_cons, List.length_nil, List.take, List.drop, List.reverse_cons, List.reverse_nil, List.nil_append, List.cons_append, Option.toList_some, Option.toList_none, Nat.reduceAdd, Nat.reduceSub, Nat.reduceLT, Nat.reduceEqDiff, Fin.isValue, aTL, aSZ, Int.toNat_natCast, hset_same, hset_o, hset_s, hset_row, ne_eq, Nat.reduceBEq, beq_self_eq_true, Fin.val_zero, Fin.val_one, fin0, fin1, fin2, fin3, Nat.le_refl, Nat.reduceLeDiff, Nat.zero_le, Int.reduceAdd, Int.reduceNeg, Int.reduceLE, Int.reduceLT, Int.reduceToNat, Int.reduceMul, Int.cast_ofNat_Int, Nat.reduceMod, ↓reduceIte, if_true, if_false, and_true, true_and, or_true, true_or, false_or, or_false, and_self, not_true_eq_false, not_false_eq_true, Bool.false_eq_true, reduceCtorEq, false_implies, true_implies, implies_true, and_false, false_and, dX7_ask_0, dX7_ask_1, dX7_ask_2, dX7_ask_5, dX7_ask_8, dX7_ask_9, dX7_ask_12, dX7_ask_13, dX7_ask_14, dX7_ask_17, dX7_ask_19, dX7_ask_20, dX7_ask_21, dX7_ask_24, dX7_ask_25, dX7_ask_26, dX7_ask_29, dX7_ask_32, dX7_ask_33, dX7_ask_34, dX7_ask_35, dX7_ask_36, dX7_ask_39, dX7_ask_40, dX7_ask_43, dX7_ask_44, dX7_ask_47, dX7_ask_50, dX7_ask_51, dX7_ask_52, dX7_ask_55, cpX7, mT_X7_ask, SHl_0, SHl_1, SHl_2, SHl_3, SHl_4, SHl_5, SHl_6, SHl_7, SHl_8, SHl_9, SHl_10, SHl_11, SHl_12, SHl_13, SHl_14, SHl_15, SHl_16, SHl_17, SHl_18, SHl_19, SHl_20, SHl_21, SHl_22, SHl_23, SHl_24, SHl_25, SHl_26, SHl_27, SHl_28, SHl_29, SHl_30, SHl_31, SHl_32, SHl_33, SHl_34, SHl_35, SHl_36, SHl_37, SHl_38, SHl_39, SHl_40, SHl_41, SHl_42, SHl_43, SHl_44, SHl_45, SHl_46, SHl_47, SHl_48, SHl_49, SHl_50, SHl_51, SHl_52, SHl_53, SHl_54, SHl_55, SHl_56, SHl_57, S_X1_begin, S_X4_sizeOf, S_X7_isChord, S_X7_settled]
    (repeat' (first | exact mid | exact isPc_7 | apply And.intro | intro _)) <;> omega
