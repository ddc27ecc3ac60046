/-! ===== the price of a chord by a window ===== -/
theorem vC_c {σ : HP} {p c : Nat} (h : (c : Int) < σ p 1) : vC σ p 1 c = σ (p + 1) c ∧ vC σ p 2 c = σ (p + 2) c ∧ vC σ p 3 c = σ (p + 3) c ∧ vC σ p 4 c = σ (p + 4) c ∧ vC σ p 5 c = σ (p + 4) (c + 1) - σ (p + 4) c := by
  simp [vC, h]
theorem vC_n {σ : HP} {p n : Nat} (h : (n : Int) < σ p 2) : vC σ p 6 n = σ (p + 5) n := by
  simp [vC, h]
theorem vC_0 (σ : HP) (p : Nat) : vC σ p 0 0 = σ p 0 ∧ vC σ p 0 1 = σ p 1 ∧ vC σ p 0 2 = σ p 2 := by
  simp [vC]
theorem vM_c {σ : HP} {w c : Nat} (h : (c : Int) < σ w 1) : vM σ w 0 1 c = σ w (5 * c + 3) ∧ vM σ w 0 2 c = σ w (5 * c + 6) ∧ vM σ w 0 3 c = σ w (5 * c + 7) ∧ vM σ w 0 4 c = σ w (5 * c + 4) ∧ vM σ w 0 5 c = σ w (5 * c + 5) := by
  simp [vM, h]
theorem vM_n {σ : HP} {w n : Nat} (h : (n : Int) < σ w 2) : vM σ w 0 6 n = σ w (53 + n) := by
  simp [vM, h]
theorem vM_0 (σ : HP) (w : Nat) : vM σ w 0 0 0 = σ w 0 ∧ vM σ w 0 0 1 = σ w 1 ∧ vM σ w 0 0 2 = σ w 2 := by
  simp [vM]
def S_X4_priceBy : MSpec := fun a σ Q => match a with
  | [.inr (.inl p), .inl c, .inl x] => isPc p ∧ okV (vC σ p) ∧ (0 ≤ c ∧ c < σ p 1) ∧ (-15 ≤ x ∧ x ≤ 8) ∧ Q (some (.inl (pV (vC σ p) c.toNat x))) σ
  | _ => False
theorem rc_X4_priceBy : ∀ a σ Q, S_X4_priceBy a σ Q → ∃ (p : Nat) (r : List AV), a = .inr (.inl p) :: r ∧ p < 76 ∧ (SH p).1 = 4 ∧ (SH p).2.1 = 3 := by
  intro a σ Q h
  unfold S_X4_priceBy at h
  split at h
  · exact ⟨_, _, rfl, h.1.lt, by rw [h.1.1], by rw [h.1.1]⟩
  · exact h.elim
def mT_X4_priceBy (i : Nat) : Option (Nat × Bool × MSpec) := match i with
  | 52 => some (2, false, S_X3_placeIn)
  | 57 => some (1, false, S_X3_letterOf)
  | 61 => some (1, false, S_X3_alterOf)
  | 64 => some (2, false, S_X3_headOf)
  | 67 => some (3, false, S_X4_priceOfName)
  | _ => none
theorem mT_X4_priceBy_ok {l : Launch} {n : Nat} (hn : 2 ≤ n) : ∀ i e, mT_X4_priceBy i = some e → mV l (rmOf n) RX4 i e := by
  intro i e h
  unfold mT_X4_priceBy at h
  split at h
  · cases h; exact mvS (lv := 1) mw_X3_placeIn (by omega) (by decide) (by decide +kernel) (Or.inl (gtm 553 (by decide +kernel) (by decide +kernel))) ok_X3_placeIn
  · cases h; exact mvS (lv := 1) mw_X3_letterOf (by omega) (by decide) (by decide +kernel) (Or.inl (gtm 554 (by decide +kernel) (by decide +kernel))) ok_X3_letterOf
  · cases h; exact mvS (lv := 1) mw_X3_alterOf (by omega) (by decide) (by decide +kernel) (Or.inl (gtm 555 (by decide +kernel) (by decide +kernel))) ok_X3_alterOf
  · cases h; exact mvS (lv := 0) mw_X3_headOf (by omega) (by decide) (by decide +kernel) (Or.inl (gtm 556 (by decide +kernel) (by decide +kernel))) ok_X3_headOf
  · cases h; exact mvS (lv := 1) mw_X4_priceOfName (by omega) (by decide) (by decide +kernel) (Or.inl (gtm 557 (by decide +kernel) (by decide +kernel))) ok_X4_priceOfName
  · cases h
set_option maxRecDepth 100000 in
set_option maxHeartbeats 8000000 in
theorem ok_X4_priceBy : ∀ l n, 2 ≤ n → ∀ a σ Q, S_X4_priceBy a σ Q → AM l n yX4_priceBy cX4_priceBy 9 (some .int) a σ Q := by
  intro l n hn a σ Q hS
  unfold S_X4_priceBy at hS
  split at hS
  rotate_left
  · exact hS.elim
  rename_i p c' x
  obtain ⟨⟨k0, k1, k2, k3, k4, k5, k6, k7⟩, hV, c1, x1, hq⟩ := hS
  obtain ⟨c, rfl⟩ : ∃ c : Nat, c' = (c : Int) := ⟨c'.toNat, by omega⟩
  obtain ⟨v0, v1, v2⟩ := vC_0 σ p
  obtain ⟨e1, e2, e3, e4, e5⟩ := vC_c (σ := σ) (p := p) (c := c) (by omega)
  obtain ⟨o1, o2, o3, -, oc, on⟩ := id hV
  obtain ⟨a1, a2, a3, a4, a5, a6, -⟩ := oc c (by omega)
  rw [v0] at o1; rw [v1] at o2; rw [v2] at o3 a6
  rw [e1] at a1; rw [e4] at a4 a6; rw [e5] at a5 a6
  rw [Int.toNat_natCast] at hq
  refine am_ofF 1 cpX4 mT_X4_priceBy (plainFor_of_name (by decide +kernel)) (rfl) (Nat.le_of_ble_eq_true rfl) (cpX4_ok) (mT_X4_priceBy_ok hn) (fun K hK => ?_)
  have loop : σ (p + 1) c ≠ 5 → ∀ (d j : Nat), (j : Int) + d = σ (p + 4) (c + 1) - σ (p + 4) c → ∀ u7 u8 : Option AV, K 28 [some (.inr (.inl p)), some (.inl (c : Int)), some (.inl x), some (.inl (σ (p + 1) c)), some (.inl (prS (σ (p + 1) c) (σ p 0) (nmV (vC σ p) c x) j)), some (.inl (seenZ (nmV (vC σ p) c x) j)), some (.inl (σ (p + 4) c + j)), u7, u8] [] σ := by
    intro h5 d
    have hq2 : Q (some (.inl (prS (σ (p + 1) c) (σ p 0) (nmV (vC σ p) c x) (σ (p + 4) (c + 1) - σ (p + 4) c).toNat))) σ := by
      unfold pV at hq
      rw [e1, e5, v0, if_neg h5] at hq
      exact hq
    induction d with
    | zero =>
      intro j hj u7 u8
      refine hK (fun q => q == 28) 100 _ _ _ _ ?_
      simp only [↓wp, ↓stp, ilen, lnth, st1, st2, nolong, nohead, rnth, ↓gfX, ↓pfX, gfV, pfV, cpF, cpP, cndZ, ↓tgo, ↓tsw, ↓lsw, ↓ldI, ↓ldA, ↓ldL, ↓stI, ↓stA, ↓stL, ↓bin, ↓binD, ↓binL, ↓binDL, ↓una, ↓acV, ↓acK, ↓acpy, ↓inv, entL, nones, List.length_cons, List.length_nil, List.take, List.drop, List.reverse_cons, List.reverse_nil, List.nil_append, List.cons_append, Option.toList_some, Option.toList_none, Nat.reduceAdd, Nat.reduceSub, Nat.reduceLT, Nat.reduceEqDiff, Fin.isValue, aTL, aSZ, Int.toNat_natCast, hset_same, hset_o, hset_s, hset_row, ne_eq, Nat.reduceBEq, beq_self_eq_true, Fin.val_zero, Fin.val_one, fin0, fin1, fin2, fin3, Nat.le_refl, Nat.reduceLeDiff, Nat.zero_le, Int.reduceAdd, Int.reduceNeg, Int.reduceLE, Int.reduceLT, Int.reduceToNat, Int.reduceMul, Int.cast_ofNat_Int, Nat.reduceMod, ↓reduceIte, if_true, if_false, and_true, true_and, or_true, true_or, false_or, or_false, and_self, not_true_eq_false, not_false_eq_true, Bool.false_eq_true, reduceCtorEq, false_implies, true_implies, implies_true, and_false, false_and, dX4_priceBy_0, dX4_priceBy_1, dX4_priceBy_4, dX4_priceBy_5, dX4_priceBy_6, dX4_priceBy_7, dX4_priceBy_8, dX4_priceBy_9, dX4_priceBy_12, dX4_priceBy_13, dX4_priceBy_14, dX4_priceBy_15, dX4_priceBy_17, dX4_priceBy_18, dX4_priceBy_20, dX4_priceBy_21, dX4_priceBy_24, dX4_priceBy_25, dX4_priceBy_26, dX4_priceBy_28, dX4_priceBy_30, dX4_priceBy_31, dX4_priceBy_34, dX4_priceBy_35, dX4_priceBy_36, dX4_priceBy_37, dX4_priceBy_38, dX4_priceBy_41, dX4_priceBy_42, dX4_priceBy_43, dX4_priceBy_46, dX4_priceBy_48, dX4_priceBy_49, dX4_priceBy_52, dX4_priceBy_54, dX4_priceBy_56, dX4_priceBy_59, dX4_priceBy_61, dX4_priceBy_63, dX4_priceBy_64, dX4_priceBy_66, dX4_priceBy_69, dX4_priceBy_70, dX4_priceBy_73, dX4_priceBy_75, dX4_priceBy_78, dX4_priceBy_81, dX4_priceBy_82, dX4_priceBy_84, dX4_priceBy_86, dX4_priceBy_87, dX4_priceBy_89, dX4_priceBy_90, dX4_priceBy_92, dX4_priceBy_93, dX4_priceBy_94, dX4_priceBy_96, dX4_priceBy_97, dX4_priceBy_98, dX4_priceBy_99, dX4_priceBy_101, dX4_priceBy_103, dX4_priceBy_104, dX4_priceBy_105, dX4_priceBy_107, dX4_priceBy_108, dX4_priceBy_109, dX4_priceBy_110, dX4_priceBy_112, dX4_priceBy_115, dX4_priceBy_118, dX4_priceBy_120, cpX4, mT_X4_priceBy, SHl_0, SHl_1, SHl_2, SHl_3, SHl_4, SHl_5, SHl_6, SHl_7, SHl_8, SHl_9, SHl_10, SHl_11, SHl_12, SHl_13, SHl_14, SHl_15, SHl_16, SHl_17, SHl_18, SHl_19, SHl_20, SHl_21, SHl_22, SHl_23, SHl_24, SHl_25, SHl_26, SHl_27, SHl_28, SHl_29, SHl_30, SHl_31, SHl_32, SHl_33, SHl_34, SHl_35, SHl_36, SHl_37, SHl_38, SHl_39, SHl_40, SHl_41, SHl_42, SHl_43, SHl_44, SHl_45, SHl_46, SHl_47, SHl_48, SHl_49, SHl_50, SHl_51, SHl_52, SHl_53, SHl_54, SHl_55, SHl_56, SHl_57, S_X3_alterOf, S_X3_headOf, S_X3_letterOf, S_X3_placeIn, S_X4_priceOfName, k0, k1, k2, k3, k4, k5, k6]
      have := prS_b (kd := σ (p + 1) c) (g := σ p 0) (nm := nmV (vC σ p) c x) (fun j => nmV_b x1.1 x1.2 j) j (by omega)
      refine ⟨by omega, by omega, by omega, ⟨by omega, by omega⟩, ?_, ?_, ?_⟩
      · rw [show ((c : Int) + 1).toNat = c + 1 by omega]; exact ⟨by omega, by omega⟩
      · intro _
        rw [show j = (σ (p + 4) (c + 1) - σ (p + 4) c).toNat by omega]; exact hq2
      · rw [show ((c : Int) + 1).toNat = c + 1 by omega]; intro _; omega
    | succ d ih =>
      intro j hj u7 u8
      have nb := nmV_b (V := vC σ p) (c := c) x1.1 x1.2 j
      have lb := letZ_b (nmV (vC σ p) c x j)
      have sb := seenZ_b (nm := nmV (vC σ p) c x) (j := j) (by omega)
      have pb := prS_b (kd := σ (p + 1) c) (g := σ p 0) (nm := nmV (vC σ p) c x) (fun j => nmV_b x1.1 x1.2 j) j (by omega)
      have hk6 : vC σ p 6 ((σ (p + 4) c).toNat + j) = σ (p + 5) ((σ (p + 4) c + j)).toNat := by
        rw [vC_n (by omega)]
        congr 1
        omega
      have hon := on ((σ (p + 4) c).toNat + j) (by omega)
      have hnm : nmV (vC σ p) c x j = x + (7 * σ (p + 5) ((σ (p + 4) c + j)).toNat - x) % 12 := by
        unfold nmV namZ
        rw [e4, hk6]
      rw [hk6] at hon
      have ab : -3 ≤ altZ (nmV (vC σ p) c x j) ∧ altZ (nmV (vC σ p) c x j) ≤ 3 := by unfold altZ; omega
      refine hK (fun q => q == 28) 100 _ _ _ _ ?_
      simp only [↓wp, ↓stp, ilen, lnth, st1, st2, nolong, nohead, rnth, ↓gfX, ↓pfX, gfV, pfV, cpF, cpP, cndZ, ↓tgo, ↓tsw, ↓lsw, ↓ldI, ↓ldA, ↓ldL, ↓stI, ↓stA, ↓stL, ↓bin, ↓binD, ↓binL, ↓binDL, ↓una, ↓acV, ↓acK, ↓acpy, ↓inv, entL, nones, List.length_cons, List.length_nil, List.take, List.drop, List.reverse_cons, List.reverse_nil, List.nil_append, List.cons_append, Option.toList_some, Option.toList_none, Nat.reduceAdd, Nat.reduceSub, Nat.reduceLT, Nat.reduceEqDiff, Fin.isValue, aTL, aSZ, Int.toNat_natCast, hset_same, hset_o, hset_s, hset_row, ne_eq, Nat.reduceBEq, beq_self_eq_true, Fin.val_zero, Fin.val_one, fin0, fin1, fin2, fin3, Nat.le_refl, Nat.reduceLeDiff, Nat.zero_le, Int.reduceAdd, Int.reduceNeg, Int.reduceLE, Int.reduceLT, Int.reduceToNat, Int.reduceMul, Int.cast_ofNat_Int, Nat.reduceMod, ↓reduceIte, if_true, if_false, and_true, true_and, or_true, true_or, false_or, or_false, and_self, not_true_eq_false, not_false_eq_true, Bool.false_eq_true, reduceCtorEq, false_implies, true_implies, implies_true, and_false, false_and, dX4_priceBy_0, dX4_priceBy_1, dX4_priceBy_4, dX4_priceBy_5, dX4_priceBy_6, dX4_priceBy_7, dX4_priceBy_8, dX4_priceBy_9, dX4_priceBy_12, dX4_priceBy_13, dX4_priceBy_14, dX4_priceBy_15, dX4_priceBy_17, dX4_priceBy_18, dX4_priceBy_20, dX4_priceBy_21, dX4_priceBy_24, dX4_priceBy_25, dX4_priceBy_26, dX4_priceBy_28, dX4_priceBy_30, dX4_priceBy_31, dX4_priceBy_34, dX4_priceBy_35, dX4_priceBy_36, dX4_priceBy_37, dX4_priceBy_38, dX4_priceBy_41, dX4_priceBy_42, dX4_priceBy_43, dX4_priceBy_46, dX4_priceBy_48, dX4_priceBy_49, dX4_priceBy_52, dX4_priceBy_54, dX4_priceBy_56, dX4_priceBy_59, dX4_priceBy_61, dX4_priceBy_63, dX4_priceBy_64, dX4_priceBy_66, dX4_priceBy_69, dX4_priceBy_70, dX4_priceBy_73, dX4_priceBy_75, dX4_priceBy_78, dX4_priceBy_81, dX4_priceBy_82, dX4_priceBy_84, dX4_priceBy_86, dX4_priceBy_87, dX4_priceBy_89, dX4_priceBy_90, dX4_priceBy_92, dX4_priceBy_93, dX4_priceBy_94, dX4_priceBy_96, dX4_priceBy_97, dX4_priceBy_98, dX4_priceBy_99, dX4_priceBy_101, dX4_priceBy_103, dX4_priceBy_104, dX4_priceBy_105, dX4_priceBy_107, dX4_priceBy_108, dX4_priceBy_109, dX4_priceBy_110, dX4_priceBy_112, dX4_priceBy_115, dX4_priceBy_118, dX4_priceBy_120, cpX4, mT_X4_priceBy, SHl_0, SHl_1, SHl_2, SHl_3, SHl_4, SHl_5, SHl_6, SHl_7, SHl_8, SHl_9, SHl_10, SHl_11, SHl_12, SHl_13, SHl_14, SHl_15, SHl_16, SHl_17, SHl_18, SHl_19, SHl_20, SHl_21, SHl_22, SHl_23, SHl_24, SHl_25, SHl_26, SHl_27, SHl_28, SHl_29, SHl_30, SHl_31, SHl_32, SHl_33, SHl_34, SHl_35, SHl_36, SHl_37, SHl_38, SHl_39, SHl_40, SHl_41, SHl_42, SHl_43, SHl_44, SHl_45, SHl_46, SHl_47, SHl_48, SHl_49, SHl_50, SHl_51, SHl_52, SHl_53, SHl_54, SHl_55, SHl_56, SHl_57, S_X3_alterOf, S_X3_headOf, S_X3_letterOf, S_X3_placeIn, S_X4_priceOfName, k0, k1, k2, k3, k4, k5, k6]
      rw [← hnm]
      rw [show ((c : Int) + 1).toNat = c + 1 by omega]
      have hh := ih (j + 1) (by omega) (some (.inl (nmV (vC σ p) c x j))) (some (.inl (letZ (nmV (vC σ p) c x j))))
      rw [show prS (σ (p + 1) c) (σ p 0) (nmV (vC σ p) c x) (j + 1) = prS (σ (p + 1) c) (σ p 0) (nmV (vC σ p) c x) j + prN (σ (p + 1) c) (σ p 0) (nmV (vC σ p) c x j) + 5 * cntL (nmV (vC σ p) c x) (letZ (nmV (vC σ p) c x j)) j from rfl, ← seen_put, ← seen_get (nm := nmV (vC σ p) c x) (j := j) (by omega) lb.1 lb.2, show σ (p + 4) c + ((j + 1 : Nat) : Int) = σ (p + 4) c + (j : Int) + 1 by omega] at hh
      unfold letZ at lb
      unfold altZ at ab
      refine ⟨by omega, by omega, by omega, ⟨by omega, by omega⟩, ⟨by omega, by omega⟩, fun q => by omega, fun q => ⟨by omega, by omega, by omega, ⟨by omega, by omega⟩, ⟨by omega, by omega⟩, ⟨by omega, by omega⟩, ⟨by omega, by omega⟩, by omega, ⟨by omega, by omega⟩, ⟨by omega, by omega⟩, ⟨by omega, by omega⟩, ⟨by omega, by omega⟩, ⟨by omega, by omega⟩, hh⟩⟩
  refine hK (fun q => q == 28) 100 _ _ _ _ ?_
  simp only [↓wp, ↓stp, ilen, lnth, st1, st2, nolong, nohead, rnth, ↓gfX, ↓pfX, gfV, pfV, cpF, cpP, cndZ, ↓tgo, ↓tsw, ↓lsw, ↓ldI, ↓ldA, ↓ldL, ↓stI, ↓stA, ↓stL, ↓bin, ↓binD, ↓binL, ↓binDL, ↓una, ↓acV, ↓acK, ↓acpy, ↓inv, entL, nones, List.length_cons, List.length_nil, List.take, List.drop, List.reverse_cons, List.reverse_nil, List.nil_append, List.cons_append, Option.toList_some, Option.toList_none, Nat.reduceAdd, Nat.reduceSub, Nat.reduceLT, Nat.reduceEqDiff, Fin.isValue, aTL, aSZ, Int.toNat_natCast, hset_same, hset_o, hset_s, hset_row, ne_eq, Nat.reduceBEq, beq_self_eq_true, Fin.val_zero, Fin.val_one, fin0, fin1, fin2, fin3, Nat.le_refl, Nat.reduceLeDiff, Nat.zero_le, Int.reduceAdd, Int.reduceNeg, Int.reduceLE, Int.reduceLT, Int.reduceToNat, Int.reduceMul, Int.cast_ofNat_Int, Nat.reduceMod, ↓reduceIte, if_true, if_false, and_true, true_and, or_true, true_or, false_or, or_false, and_self, not_true_eq_false, not_false_eq_true, Bool.false_eq_true, reduceCtorEq, false_implies, true_implies, implies_true, and_false, false_and, dX4_priceBy_0, dX4_priceBy_1, dX4_priceBy_4, dX4_priceBy_5, dX4_priceBy_6, dX4_priceBy_7, dX4_priceBy_8, dX4_priceBy_9, dX4_priceBy_12, dX4_priceBy_13, dX4_priceBy_14, dX4_priceBy_15, dX4_priceBy_17, dX4_priceBy_18, dX4_priceBy_20, dX4_priceBy_21, dX4_priceBy_24, dX4_priceBy_25, dX4_priceBy_26, dX4_priceBy_28, dX4_priceBy_30, dX4_priceBy_31, dX4_priceBy_34, dX4_priceBy_35, dX4_priceBy_36, dX4_priceBy_37, dX4_priceBy_38, dX4_priceBy_41, dX4_priceBy_42, dX4_priceBy_43, dX4_priceBy_46, dX4_priceBy_48, dX4_priceBy_49, dX4_priceBy_52, dX4_priceBy_54, dX4_priceBy_56, dX4_priceBy_59, dX4_priceBy_61, dX4_priceBy_63, dX4_priceBy_64, dX4_priceBy_66, dX4_priceBy_69, dX4_priceBy_70, dX4_priceBy_73, dX4_priceBy_75, dX4_priceBy_78, dX4_priceBy_81, dX4_priceBy_82, dX4_priceBy_84, dX4_priceBy_86, dX4_priceBy_87, dX4_priceBy_89, dX4_priceBy_90, dX4_priceBy_92, dX4_priceBy_93, dX4_priceBy_94, dX4_priceBy_96, dX4_priceBy_97, dX4_priceBy_98, dX4_priceBy_99, dX4_priceBy_101, dX4_priceBy_103, dX4_priceBy_104, dX4_priceBy_105, dX4_priceBy_107, dX4_priceBy_108, dX4_priceBy_109, dX4_priceBy_110, dX4_priceBy_112, dX4_priceBy_115, dX4_priceBy_118, dX4_priceBy_120, cpX4, mT_X4_priceBy, SHl_0, SHl_1, SHl_2, SHl_3, SHl_4, SHl_5, SHl_6, SHl_7, SHl_8, SHl_9, SHl_10, SHl_11, SHl_12, SHl_13, SHl_14, SHl_15, SHl_16, SHl_17, SHl_18, SHl_19, SHl_20, SHl_21, SHl_22, SHl_23, SHl_24, SHl_25, SHl_26, SHl_27, SHl_28, SHl_29, SHl_30, SHl_31, SHl_32, SHl_33, SHl_34, SHl_35, SHl_36, SHl_37, SHl_38, SHl_39, SHl_40, SHl_41, SHl_42, SHl_43, SHl_44, SHl_45, SHl_46, SHl_47, SHl_48, SHl_49, SHl_50, SHl_51, SHl_52, SHl_53, SHl_54, SHl_55, SHl_56, SHl_57, S_X3_alterOf, S_X3_headOf, S_X3_letterOf, S_X3_placeIn, S_X4_priceOfName, k0, k1, k2, k3, k4, k5, k6]
  refine ⟨by omega, by omega, by omega, ⟨by omega, by omega⟩, ⟨by omega, by omega⟩, fun q => ⟨by omega, by omega, by omega, ?_⟩, fun q => ?_⟩
  · have := loop q (σ (p + 4) (c + 1) - σ (p + 4) c).toNat 0 (by omega) none none
    rw [show σ (p + 4) c + ((0 : Nat) : Int) = σ (p + 4) c by omega] at this
    exact this
  · unfold pV at hq
    rw [e1, if_pos (by omega)] at hq
    exact hq
def S_X8_priceOfName : MSpec := fun a σ Q => match a with
  | [.inr (.inl w), .inl c, .inl pl] => isW w ∧ (0 ≤ c ∧ c < 10) ∧ (0 ≤ σ w 0 ∧ σ w 0 ≤ 14) ∧ (0 ≤ σ w (3 + 5 * c).toNat ∧ σ w (3 + 5 * c).toNat ≤ 5) ∧ (-15 ≤ pl ∧ pl ≤ 19) ∧ Q (some (.inl (prN (σ w (3 + 5 * c).toNat) (σ w 0) pl))) σ
  | _ => False
def mT_X8_priceOfName (i : Nat) : Option (Nat × Bool × MSpec) := match i with
  | 157 => some (1, false, S_X8_letterOf)
  | 166 => some (1, false, S_X8_alterOf)
  | 169 => some (2, false, S_X8_headOf)
  | 173 => some (1, false, S_X8_size)
  | _ => none
theorem mT_X8_priceOfName_ok {l : Launch} {n : Nat} (hn : 3 ≤ n) : ∀ i e, mT_X8_priceOfName i = some e → mV l (rmOf n) RX8 i e := by
  intro i e h
  unfold mT_X8_priceOfName at h
  split at h
  · cases h; exact mvS (lv := 1) mw_X8_letterOf (by omega) (by decide) (by decide +kernel) (Or.inl (gtm 963 (by decide +kernel) (by decide +kernel))) ok_X8_letterOf
  · cases h; exact mvS (lv := 2) mw_X8_alterOf (by omega) (by decide) (by decide +kernel) (Or.inl (gtm 966 (by decide +kernel) (by decide +kernel))) ok_X8_alterOf
  · cases h; exact mvS (lv := 0) mw_X8_headOf (by omega) (by decide) (by decide +kernel) (Or.inl (gtm 986 (by decide +kernel) (by decide +kernel))) ok_X8_headOf
  · cases h; exact mvS (lv := 0) mw_X8_size (by omega) (by decide) (by decide +kernel) (Or.inl (gtm 1012 (by decide +kernel) (by decide +kernel))) ok_X8_size
  · cases h
set_option maxRecDepth 100000 in
set_option maxHeartbeats 4000000 in
theorem ok_X8_priceOfName : ∀ l n, 3 ≤ n → ∀ a σ Q, S_X8_priceOfName a σ Q → AM l n yX8_priceOfName cX8_priceOfName 7 (some .int) a σ Q := by
  intro l n hn a σ Q hS
  unfold S_X8_priceOfName at hS
  split at hS
  rotate_left
  · exact hS.elim
  rename_i w c pl
  obtain ⟨⟨k0, k1⟩, c1, g1, d1, l1, hq⟩ := hS
  refine am_ofF 1 cpX8 mT_X8_priceOfName (plainFor_of_name (by decide +kernel)) (rfl) (Nat.le_of_ble_eq_true rfl) (cpX8_ok) (mT_X8_priceOfName_ok hn) (fun K hK => ?_)
  refine hK (fun _ => false) 200 _ _ _ _ ?_
  simp only [↓wp, ↓stp, ilen, lnth, st1, st2, nolong, nohead, rnth, ↓gfX, ↓pfX, gfV, pfV, cpF, cpP, cndZ, ↓tgo, ↓tsw, ↓lsw, ↓ldI, ↓ldA, ↓ldL, ↓stI, ↓stA, ↓stL, ↓bin, ↓binD, ↓binL, ↓binDL, ↓una, ↓acV, ↓acK, ↓acpy, ↓inv, entL, nones, List.length_cons, List.length_nil, List.take, List.drop, List.reverse_cons, List.reverse_nil, List.nil_append, List.cons_append, Option.toList_some, Option.toList_none, Nat.reduceAdd, Nat.reduceSub, Nat.reduceLT, Nat.reduceEqDiff, Fin.isValue, aTL, aSZ, Int.toNat_natCast, hset_same, hset_o, hset_s, hset_row, ne_eq, Nat.reduceBEq, beq_self_eq_true, Fin.val_zero, Fin.val_one, fin0, fin1, fin2, fin3, Nat.le_refl, Nat.reduceLeDiff, Nat.zero_le, Int.reduceAdd, Int.reduceNeg, Int.reduceLE, Int.reduceLT, Int.reduceToNat, Int.reduceMul, Int.cast_ofNat_Int, Nat.reduceMod, ↓reduceIte, if_true, if_false, and_true, true_and, or_true, true_or, false_or, or_false, and_self, not_true_eq_false, not_false_eq_true, Bool.false_eq_true, reduceCtorEq, false_implies, true_implies, implies_true, and_false, false_and, dX8_priceOfName_0, dX8_priceOfName_1, dX8_priceOfName_4, dX8_priceOfName_5, dX8_priceOfName_6, dX8_priceOfName_7, dX8_priceOfName_8, dX8_priceOfName_11, dX8_priceOfName_14, dX8_priceOfName_15, dX8_priceOfName_18, dX8_priceOfName_20, dX8_priceOfName_21, dX8_priceOfName_22, dX8_priceOfName_23, dX8_priceOfName_24, dX8_priceOfName_25, dX8_priceOfName_26, dX8_priceOfName_27, dX8_priceOfName_29, dX8_priceOfName_31, dX8_priceOfName_32, dX8_priceOfName_35, dX8_priceOfName_36, dX8_priceOfName_39, dX8_priceOfName_41, dX8_priceOfName_42, dX8_priceOfName_45, dX8_priceOfName_46, dX8_priceOfName_49, dX8_priceOfName_50, dX8_priceOfName_53, dX8_priceOfName_54, dX8_priceOfName_56, dX8_priceOfName_58, dX8_priceOfName_61, dX8_priceOfName_63, dX8_priceOfName_66, dX8_priceOfName_67, dX8_priceOfName_69, dX8_priceOfName_70, cpX8, mT_X8_priceOfName, SHl_58, SHl_59, SHl_60, SHl_61, SHl_62, SHl_63, SHl_64, SHl_65, SHl_66, SHl_67, SHl_68, SHl_69, SHl_70, SHl_71, SHl_72, SHl_73, SHl_74, SHl_75, S_X8_alterOf, S_X8_headOf, S_X8_letterOf, S_X8_size, k0]
  have lb := letZ_b pl
  have ab : -3 ≤ altZ pl ∧ altZ pl ≤ 3 := by unfold altZ; omega
  have hb : -1 ≤ headV (σ w 0) (letZ pl) ∧ headV (σ w 0) (letZ pl) ≤ 1 := by unfold headV; split <;> (try split) <;> omega
  unfold prN at hq
  (repeat' (first | apply And.intro | intro _)) <;> first | omega | exact hq | (rw [if_pos (by omega)] at hq; exact hq) | (rw [if_neg (by omega)] at hq; exact hq) | (repeat (first | rw [if_pos (by omega)] at hq | rw [if_neg (by omega)] at hq)) <;> exact hq | assumption | exact R32_of _
def S_X8_priceOf : MSpec := fun a σ Q => match a with
  | [.inr (.inl w), .inl c, .inl x] => isW w ∧ okV (vM σ w 0) ∧ (0 ≤ c ∧ c < σ w 1) ∧ (-15 ≤ x ∧ x ≤ 8) ∧ Q (some (.inl (pV (vM σ w 0) c.toNat x))) σ
  | _ => False
def mT_X8_priceOf (i : Nat) : Option (Nat × Bool × MSpec) := match i with
  | 157 => some (1, false, S_X8_letterOf)
  | 176 => some (4, false, S_X8_nameIn)
  | 180 => some (3, false, S_X8_priceOfName)
  | _ => none
theorem mT_X8_priceOf_ok {l : Launch} {n : Nat} (hn : 4 ≤ n) : ∀ i e, mT_X8_priceOf i = some e → mV l (rmOf n) RX8 i e := by
  intro i e h
  unfold mT_X8_priceOf at h
  split at h
  · cases h; exact mvS (lv := 1) mw_X8_letterOf (by omega) (by decide) (by decide +kernel) (Or.inl (gtm 963 (by decide +kernel) (by decide +kernel))) ok_X8_letterOf
  · cases h; exact mvS (lv := 3) mw_X8_nameIn (by omega) (by decide) (by decide +kernel) (Or.inl (gtm 1022 (by decide +kernel) (by decide +kernel))) ok_X8_nameIn
  · cases h; exact mvS (lv := 3) mw_X8_priceOfName (by omega) (by decide) (by decide +kernel) (Or.inl (gtm 1025 (by decide +kernel) (by decide +kernel))) ok_X8_priceOfName
  · cases h
set_option maxRecDepth 100000 in
set_option maxHeartbeats 8000000 in
theorem ok_X8_priceOf : ∀ l n, 4 ≤ n → ∀ a σ Q, S_X8_priceOf a σ Q → AM l n yX8_priceOf cX8_priceOf 8 (some .int) a σ Q := by
  intro l n hn a σ Q hS
  unfold S_X8_priceOf at hS
  split at hS
  rotate_left
  · exact hS.elim
  rename_i w c' x
  obtain ⟨hw, hV, c1, x1, hq⟩ := hS
  obtain ⟨k0, k1⟩ := id hw
  obtain ⟨c, rfl⟩ : ∃ c : Nat, c' = (c : Int) := ⟨c'.toNat, by omega⟩
  obtain ⟨v0, v1, v2⟩ := vM_0 σ w
  obtain ⟨e1, e2, e3, e4, e5⟩ := vM_c (σ := σ) (w := w) (c := c) (by omega)
  obtain ⟨o1, o2, o3, -, oc, on⟩ := id hV
  obtain ⟨a1, a2, a3, a4, a5, a6, -⟩ := oc c (by omega)
  rw [v0] at o1; rw [v1] at o2; rw [v2] at o3 a6
  rw [e1] at a1; rw [e4] at a4 a6; rw [e5] at a5 a6
  rw [Int.toNat_natCast] at hq
  refine am_ofF 1 cpX8 mT_X8_priceOf (plainFor_of_name (by decide +kernel)) (rfl) (Nat.le_of_ble_eq_true rfl) (cpX8_ok) (mT_X8_priceOf_ok hn) (fun K hK => ?_)
  have nk : ∀ j : Nat, (j : Int) < σ w (5 * c + 5) → 0 ≤ σ w (53 + σ w (5 * c + 4) + j).toNat ∧ σ w (53 + σ w (5 * c + 4) + j).toNat < 12 ∧ namZ x (σ w (53 + σ w (5 * c + 4) + j).toNat) = nmV (vM σ w 0) c x j := by
    intro j hj
    have h1 := on ((σ w (5 * c + 4)).toNat + j) (by omega)
    have h2 : vM σ w 0 6 ((σ w (5 * c + 4)).toNat + j) = σ w (53 + σ w (5 * c + 4) + j).toNat := by
      rw [vM_n (by omega)]
      congr 1
      omega
    rw [h2] at h1
    refine ⟨h1.1, h1.2, ?_⟩
    unfold nmV
    rw [e4, h2]
  have outer : σ w (5 * c + 3) ≠ 5 → ∀ (d j : Nat), (j : Int) + d = σ w (5 * c + 5) → ∀ u6 u7 : Option AV, K 16 [some (.inr (.inl w)), some (.inl (c : Int)), some (.inl x), some (.inl (prS (σ w (5 * c + 3)) (σ w 0) (nmV (vM σ w 0) c x) j)), some (.inl (σ w (5 * c + 5))), some (.inl (j : Int)), u6, u7] [] σ := by
    intro h5 d
    have hq2 : Q (some (.inl (prS (σ w (5 * c + 3)) (σ w 0) (nmV (vM σ w 0) c x) (σ w (5 * c + 5)).toNat))) σ := by
      unfold pV at hq
      rw [e1, e5, v0, if_neg h5] at hq
      exact hq
    induction d with
    | zero =>
      intro j hj u6 u7
      refine hK (fun q => q == 16) 100 _ _ _ _ ?_
      simp only [↓wp, ↓stp, ilen, lnth, st1, st2, nolong, nohead, rnth, ↓gfX, ↓pfX, gfV, pfV, cpF, cpP, cndZ, ↓tgo, ↓tsw, ↓lsw, ↓ldI, ↓ldA, ↓ldL, ↓stI, ↓stA, ↓stL, ↓bin, ↓binD, ↓binL, ↓binDL, ↓una, ↓acV, ↓acK, ↓acpy, ↓inv, entL, nones, List.length_cons, List.length_nil, List.take, List.drop, List.reverse_cons, List.reverse_nil, List.nil_append, List.cons_append, Option.toList_some, Option.toList_none, Nat.reduceAdd, Nat.reduceSub, Nat.reduceLT, Nat.reduceEqDiff, Fin.isValue, aTL, aSZ, Int.toNat_natCast, hset_same, hset_o, hset_s, hset_row, ne_eq, Nat.reduceBEq, beq_self_eq_true, Fin.val_zero, Fin.val_one, fin0, fin1, fin2, fin3, Nat.le_refl, Nat.reduceLeDiff, Nat.zero_le, Int.reduceAdd, Int.reduceNeg, Int.reduceLE, Int.reduceLT, Int.reduceToNat, Int.reduceMul, Int.cast_ofNat_Int, Nat.reduceMod, ↓reduceIte, if_true, if_false, and_true, true_and, or_true, true_or, false_or, or_false, and_self, not_true_eq_false, not_false_eq_true, Bool.false_eq_true, reduceCtorEq, false_implies, true_implies, implies_true, and_false, false_and, dX8_priceOf_0, dX8_priceOf_1, dX8_priceOf_2, dX8_priceOf_3, dX8_priceOf_4, dX8_priceOf_5, dX8_priceOf_6, dX8_priceOf_7, dX8_priceOf_8, dX8_priceOf_9, dX8_priceOf_10, dX8_priceOf_11, dX8_priceOf_13, dX8_priceOf_14, dX8_priceOf_16, dX8_priceOf_18, dX8_priceOf_20, dX8_priceOf_23, dX8_priceOf_24, dX8_priceOf_25, dX8_priceOf_26, dX8_priceOf_27, dX8_priceOf_28, dX8_priceOf_29, dX8_priceOf_30, dX8_priceOf_31, dX8_priceOf_34, dX8_priceOf_35, dX8_priceOf_36, dX8_priceOf_38, dX8_priceOf_39, dX8_priceOf_42, dX8_priceOf_44, dX8_priceOf_45, dX8_priceOf_46, dX8_priceOf_47, dX8_priceOf_49, dX8_priceOf_52, dX8_priceOf_53, dX8_priceOf_54, dX8_priceOf_55, dX8_priceOf_57, dX8_priceOf_59, dX8_priceOf_61, dX8_priceOf_64, dX8_priceOf_65, dX8_priceOf_66, dX8_priceOf_67, dX8_priceOf_69, dX8_priceOf_70, dX8_priceOf_73, dX8_priceOf_76, dX8_priceOf_78, dX8_priceOf_81, dX8_priceOf_84, dX8_priceOf_85, dX8_priceOf_88, dX8_priceOf_89, dX8_priceOf_90, dX8_priceOf_91, dX8_priceOf_94, dX8_priceOf_97, dX8_priceOf_100, dX8_priceOf_103, dX8_priceOf_104, cpX8, mT_X8_priceOf, SHl_58, SHl_59, SHl_60, SHl_61, SHl_62, SHl_63, SHl_64, SHl_65, SHl_66, SHl_67, SHl_68, SHl_69, SHl_70, SHl_71, SHl_72, SHl_73, SHl_74, SHl_75, S_X8_letterOf, S_X8_nameIn, S_X8_priceOfName, k0, ix0, ix1, ix2]
      refine ⟨⟨by omega, by omega⟩, ⟨by omega, by omega⟩, fun _ => ?_, fun q => by omega⟩
      rw [show j = (σ w (5 * c + 5)).toNat by omega]
      exact hq2
    | succ d ih =>
      intro j hj u6 u7
      have nb := nmV_b (V := vM σ w 0) (c := c) x1.1 x1.2 j
      have lb := letZ_b (nmV (vM σ w 0) c x j)
      have pb := prS_b (kd := σ w (5 * c + 3)) (g := σ w 0) (nm := nmV (vM σ w 0) c x) (fun j => nmV_b x1.1 x1.2 j) j (by omega)
      obtain ⟨n1, n2, n3⟩ := nk j (by omega)
      have inner : ∀ (f k : Nat), k + f = j → ∀ u : Int, K 57 [some (.inr (.inl w)), some (.inl (c : Int)), some (.inl x), some (.inl (prS (σ w (5 * c + 3)) (σ w 0) (nmV (vM σ w 0) c x) j + prN (σ w (5 * c + 3)) (σ w 0) (nmV (vM σ w 0) c x j) + 5 * cntL (nmV (vM σ w 0) c x) (letZ (nmV (vM σ w 0) c x j)) k)), some (.inl (σ w (5 * c + 5))), some (.inl (j : Int)), some (.inl (nmV (vM σ w 0) c x j)), some (.inl (k : Int))] [] σ := by
        intro f
        induction f with
        | zero =>
          intro k hk u
          refine hK (fun q => q == 57 || q == 16) 100 _ _ _ _ ?_
          simp only [↓wp, ↓stp, ilen, lnth, st1, st2, nolong, nohead, rnth, ↓gfX, ↓pfX, gfV, pfV, cpF, cpP, cndZ, ↓tgo, ↓tsw, ↓lsw, ↓ldI, ↓ldA, ↓ldL, ↓stI, ↓stA, ↓stL, ↓bin, ↓binD, ↓binL, ↓binDL, ↓una, ↓acV, ↓acK, ↓acpy, ↓inv, entL, nones, List.length_cons, List.length_nil, List.take, List.drop, List.reverse_cons, List.reverse_nil, List.nil_append, List.cons_append, Option.toList_some, Option.toList_none, Nat.reduceAdd, Nat.reduceSub, Nat.reduceLT, Nat.reduceEqDiff, Fin.isValue, aTL, aSZ, Int.toNat_natCast, hset_same, hset_o, hset_s, hset_row, ne_eq, Nat.reduceBEq, beq_self_eq_true, Fin.val_zero, Fin.val_one, fin0, fin1, fin2, fin3, Nat.le_refl, Nat.reduceLeDiff, Nat.zero_le, Int.reduceAdd, Int.reduceNeg, Int.reduceLE, Int.reduceLT, Int.reduceToNat, Int.reduceMul, Int.cast_ofNat_Int, Nat.reduceMod, ↓reduceIte, if_true, if_false, and_true, true_and, or_true, true_or, false_or, or_false, and_self, not_true_eq_false, not_false_eq_true, Bool.false_eq_true, reduceCtorEq, false_implies, true_implies, implies_true, and_false, false_and, dX8_priceOf_0, dX8_priceOf_1, dX8_priceOf_2, dX8_priceOf_3, dX8_priceOf_4, dX8_priceOf_5, dX8_priceOf_6, dX8_priceOf_7, dX8_priceOf_8, dX8_priceOf_9, dX8_priceOf_10, dX8_priceOf_11, dX8_priceOf_13, dX8_priceOf_14, dX8_priceOf_16, dX8_priceOf_18, dX8_priceOf_20, dX8_priceOf_23, dX8_priceOf_24, dX8_priceOf_25, dX8_priceOf_26, dX8_priceOf_27, dX8_priceOf_28, dX8_priceOf_29, dX8_priceOf_30, dX8_priceOf_31, dX8_priceOf_34, dX8_priceOf_35, dX8_priceOf_36, dX8_priceOf_38, dX8_priceOf_39, dX8_priceOf_42, dX8_priceOf_44, dX8_priceOf_45, dX8_priceOf_46, dX8_priceOf_47, dX8_priceOf_49, dX8_priceOf_52, dX8_priceOf_53, dX8_priceOf_54, dX8_priceOf_55, dX8_priceOf_57, dX8_priceOf_59, dX8_priceOf_61, dX8_priceOf_64, dX8_priceOf_65, dX8_priceOf_66, dX8_priceOf_67, dX8_priceOf_69, dX8_priceOf_70, dX8_priceOf_73, dX8_priceOf_76, dX8_priceOf_78, dX8_priceOf_81, dX8_priceOf_84, dX8_priceOf_85, dX8_priceOf_88, dX8_priceOf_89, dX8_priceOf_90, dX8_priceOf_91, dX8_priceOf_94, dX8_priceOf_97, dX8_priceOf_100, dX8_priceOf_103, dX8_priceOf_104, cpX8, mT_X8_priceOf, SHl_58, SHl_59, SHl_60, SHl_61, SHl_62, SHl_63, SHl_64, SHl_65, SHl_66, SHl_67, SHl_68, SHl_69, SHl_70, SHl_71, SHl_72, SHl_73, SHl_74, SHl_75, S_X8_letterOf, S_X8_nameIn, S_X8_priceOfName, k0, ix0, ix1, ix2, Bool.or_true, Bool.or_false, Bool.true_or, Bool.false_or]
          refine ⟨⟨by omega, by omega⟩, ⟨by omega, by omega⟩, fun _ => ?_, fun q => by omega⟩
          have hh := ih (j + 1) (by omega) (some (.inl (nmV (vM σ w 0) c x j))) (some (.inl (k : Int)))
          rw [show k = j by omega] at hh ⊢
          exact hh
        | succ f ihf =>
          intro k hk u
          obtain ⟨m1, m2, m3⟩ := nk k (by omega)
          have nb2 := nmV_b (V := vM σ w 0) (c := c) x1.1 x1.2 k
          have lb2 := letZ_b (nmV (vM σ w 0) c x k)
          have hh := ihf (k + 1) (by omega) u
          refine hK (fun q => q == 57 || q == 16) 100 _ _ _ _ ?_
          simp only [↓wp, ↓stp, ilen, lnth, st1, st2, nolong, nohead, rnth, ↓gfX, ↓pfX, gfV, pfV, cpF, cpP, cndZ, ↓tgo, ↓tsw, ↓lsw, ↓ldI, ↓ldA, ↓ldL, ↓stI, ↓stA, ↓stL, ↓bin, ↓binD, ↓binL, ↓binDL, ↓una, ↓acV, ↓acK, ↓acpy, ↓inv, entL, nones, List.length_cons, List.length_nil, List.take, List.drop, List.reverse_cons, List.reverse_nil, List.nil_append, List.cons_append, Option.toList_some, Option.toList_none, Nat.reduceAdd, Nat.reduceSub, Nat.reduceLT, Nat.reduceEqDiff, Fin.isValue, aTL, aSZ, Int.toNat_natCast, hset_same, hset_o, hset_s, hset_row, ne_eq, Nat.reduceBEq, beq_self_eq_true, Fin.val_zero, Fin.val_one, fin0, fin1, fin2, fin3, Nat.le_refl, Nat.reduceLeDiff, Nat.zero_le, Int.reduceAdd, Int.reduceNeg, Int.reduceLE, Int.reduceLT, Int.reduceToNat, Int.reduceMul, Int.cast_ofNat_Int, Nat.reduceMod, ↓reduceIte, if_true, if_false, and_true, true_and, or_true, true_or, false_or, or_false, and_self, not_true_eq_false, not_false_eq_true, Bool.false_eq_true, reduceCtorEq, false_implies, true_implies, implies_true, and_false, false_and, dX8_priceOf_0, dX8_priceOf_1, dX8_priceOf_2, dX8_priceOf_3, dX8_priceOf_4, dX8_priceOf_5, dX8_priceOf_6, dX8_priceOf_7, dX8_priceOf_8, dX8_priceOf_9, dX8_priceOf_10, dX8_priceOf_11, dX8_priceOf_13, dX8_priceOf_14, dX8_priceOf_16, dX8_priceOf_18, dX8_priceOf_20, dX8_priceOf_23, dX8_priceOf_24, dX8_priceOf_25, dX8_priceOf_26, dX8_priceOf_27, dX8_priceOf_28, dX8_priceOf_29, dX8_priceOf_30, dX8_priceOf_31, dX8_priceOf_34, dX8_priceOf_35, dX8_priceOf_36, dX8_priceOf_38, dX8_priceOf_39, dX8_priceOf_42, dX8_priceOf_44, dX8_priceOf_45, dX8_priceOf_46, dX8_priceOf_47, dX8_priceOf_49, dX8_priceOf_52, dX8_priceOf_53, dX8_priceOf_54, dX8_priceOf_55, dX8_priceOf_57, dX8_priceOf_59, dX8_priceOf_61, dX8_priceOf_64, dX8_priceOf_65, dX8_priceOf_66, dX8_priceOf_67, dX8_priceOf_69, dX8_priceOf_70, dX8_priceOf_73, dX8_priceOf_76, dX8_priceOf_78, dX8_priceOf_81, dX8_priceOf_84, dX8_priceOf_85, dX8_priceOf_88, dX8_priceOf_89, dX8_priceOf_90, dX8_priceOf_91, dX8_priceOf_94, dX8_priceOf_97, dX8_priceOf_100, dX8_priceOf_103, dX8_priceOf_104, cpX8, mT_X8_priceOf, SHl_58, SHl_59, SHl_60, SHl_61, SHl_62, SHl_63, SHl_64, SHl_65, SHl_66, SHl_67, SHl_68, SHl_69, SHl_70, SHl_71, SHl_72, SHl_73, SHl_74, SHl_75, S_X8_letterOf, S_X8_nameIn, S_X8_priceOfName, k0, ix0, ix1, ix2, Bool.or_true, Bool.or_false, Bool.true_or, Bool.false_or]
          rw [m3]
          rw [show cntL (nmV (vM σ w 0) c x) (letZ (nmV (vM σ w 0) c x j)) (k + 1) = cntL (nmV (vM σ w 0) c x) (letZ (nmV (vM σ w 0) c x j)) k + (if letZ (nmV (vM σ w 0) c x k) = letZ (nmV (vM σ w 0) c x j) then 1 else 0) from rfl] at hh
          refine ⟨⟨by omega, by omega⟩, ⟨by omega, by omega⟩, fun q => by omega, fun q => ⟨hw, by omega, by omega, by omega, ⟨by omega, by omega⟩, by omega, by omega, ⟨by omega, by omega⟩, ⟨by omega, by omega⟩, fun z => ?_, fun z => ?_⟩⟩
          · rw [if_neg z, show ∀ X c : Int, X + 5 * (c + 0) = X + 5 * c + 0 from fun X c => by omega] at hh
            exact hh
          · rw [if_pos (by omega), show ∀ X c : Int, X + 5 * (c + 1) = X + 5 * c + 5 from fun X c => by omega] at hh
            exact hh
      refine hK (fun q => q == 16 || q == 57) 100 _ _ _ _ ?_
      simp only [↓wp, ↓stp, ilen, lnth, st1, st2, nolong, nohead, rnth, ↓gfX, ↓pfX, gfV, pfV, cpF, cpP, cndZ, ↓tgo, ↓tsw, ↓lsw, ↓ldI, ↓ldA, ↓ldL, ↓stI, ↓stA, ↓stL, ↓bin, ↓binD, ↓binL, ↓binDL, ↓una, ↓acV, ↓acK, ↓acpy, ↓inv, entL, nones, List.length_cons, List.length_nil, List.take, List.drop, List.reverse_cons, List.reverse_nil, List.nil_append, List.cons_append, Option.toList_some, Option.toList_none, Nat.reduceAdd, Nat.reduceSub, Nat.reduceLT, Nat.reduceEqDiff, Fin.isValue, aTL, aSZ, Int.toNat_natCast, hset_same, hset_o, hset_s, hset_row, ne_eq, Nat.reduceBEq, beq_self_eq_true, Fin.val_zero, Fin.val_one, fin0, fin1, fin2, fin3, Nat.le_refl, Nat.reduceLeDiff, Nat.zero_le, Int.reduceAdd, Int.reduceNeg, Int.reduceLE, Int.reduceLT, Int.reduceToNat, Int.reduceMul, Int.cast_ofNat_Int, Nat.reduceMod, ↓reduceIte, if_true, if_false, and_true, true_and, or_true, true_or, false_or, or_false, and_self, not_true_eq_false, not_false_eq_true, Bool.false_eq_true, reduceCtorEq, false_implies, true_implies, implies_true, and_false, false_and, dX8_priceOf_0, dX8_priceOf_1, dX8_priceOf_2, dX8_priceOf_3, dX8_priceOf_4, dX8_priceOf_5, dX8_priceOf_6, dX8_priceOf_7, dX8_priceOf_8, dX8_priceOf_9, dX8_priceOf_10, dX8_priceOf_11, dX8_priceOf_13, dX8_priceOf_14, dX8_priceOf_16, dX8_priceOf_18, dX8_priceOf_20, dX8_priceOf_23, dX8_priceOf_24, dX8_priceOf_25, dX8_priceOf_26, dX8_priceOf_27, dX8_priceOf_28, dX8_priceOf_29, dX8_priceOf_30, dX8_priceOf_31, dX8_priceOf_34, dX8_priceOf_35, dX8_priceOf_36, dX8_priceOf_38, dX8_priceOf_39, dX8_priceOf_42, dX8_priceOf_44, dX8_priceOf_45, dX8_priceOf_46, dX8_priceOf_47, dX8_priceOf_49, dX8_priceOf_52, dX8_priceOf_53, dX8_priceOf_54, dX8_priceOf_55, dX8_priceOf_57, dX8_priceOf_59, dX8_priceOf_61, dX8_priceOf_64, dX8_priceOf_65, dX8_priceOf_66, dX8_priceOf_67, dX8_priceOf_69, dX8_priceOf_70, dX8_priceOf_73, dX8_priceOf_76, dX8_priceOf_78, dX8_priceOf_81, dX8_priceOf_84, dX8_priceOf_85, dX8_priceOf_88, dX8_priceOf_89, dX8_priceOf_90, dX8_priceOf_91, dX8_priceOf_94, dX8_priceOf_97, dX8_priceOf_100, dX8_priceOf_103, dX8_priceOf_104, cpX8, mT_X8_priceOf, SHl_58, SHl_59, SHl_60, SHl_61, SHl_62, SHl_63, SHl_64, SHl_65, SHl_66, SHl_67, SHl_68, SHl_69, SHl_70, SHl_71, SHl_72, SHl_73, SHl_74, SHl_75, S_X8_letterOf, S_X8_nameIn, S_X8_priceOfName, k0, ix0, ix1, ix2, Bool.or_true, Bool.or_false, Bool.true_or, Bool.false_or]
      rw [n3]
      have hh := inner j 0 (by omega) 0
      rw [show cntL (nmV (vM σ w 0) c x) (letZ (nmV (vM σ w 0) c x j)) 0 = 0 from rfl, show ∀ X : Int, X + 5 * 0 = X from fun X => by omega] at hh
      exact ⟨⟨by omega, by omega⟩, ⟨by omega, by omega⟩, fun q => by omega, fun q => ⟨by omega, by omega, ⟨by omega, by omega⟩, ⟨by omega, by omega⟩, fun z => absurd z h5, fun z => ⟨hw, by omega, by omega, by omega, ⟨by omega, by omega⟩, hw, by omega, by omega, by omega, by omega, hh⟩⟩⟩
  refine hK (fun q => q == 16) 100 _ _ _ _ ?_
  simp only [↓wp, ↓stp, ilen, lnth, st1, st2, nolong, nohead, rnth, ↓gfX, ↓pfX, gfV, pfV, cpF, cpP, cndZ, ↓tgo, ↓tsw, ↓lsw, ↓ldI, ↓ldA, ↓ldL, ↓stI, ↓stA, ↓stL, ↓bin, ↓binD, ↓binL, ↓binDL, ↓una, ↓acV, ↓acK, ↓acpy, ↓inv, entL, nones, List.length_cons, List.length_nil, List.take, List.drop, List.reverse_cons, List.reverse_nil, List.nil_append, List.cons_append, Option.toList_some, Option.toList_none, Nat.reduceAdd, Nat.reduceSub, Nat.reduceLT, Nat.reduceEqDiff, Fin.isValue, aTL, aSZ, Int.toNat_natCast, hset_same, hset_o, hset_s, hset_row, ne_eq, Nat.reduceBEq, beq_self_eq_true, Fin.val_zero, Fin.val_one, fin0, fin1, fin2, fin3, Nat.le_refl, Nat.reduceLeDiff, Nat.zero_le, Int.reduceAdd, Int.reduceNeg, Int.reduceLE, Int.reduceLT, Int.reduceToNat, Int.reduceMul, Int.cast_ofNat_Int, Nat.reduceMod, ↓reduceIte, if_true, if_false, and_true, true_and, or_true, true_or, false_or, or_false, and_self, not_true_eq_false, not_false_eq_true, Bool.false_eq_true, reduceCtorEq, false_implies, true_implies, implies_true, and_false, false_and, dX8_priceOf_0, dX8_priceOf_1, dX8_priceOf_2, dX8_priceOf_3, dX8_priceOf_4, dX8_priceOf_5, dX8_priceOf_6, dX8_priceOf_7, dX8_priceOf_8, dX8_priceOf_9, dX8_priceOf_10, dX8_priceOf_11, dX8_priceOf_13, dX8_priceOf_14, dX8_priceOf_16, dX8_priceOf_18, dX8_priceOf_20, dX8_priceOf_23, dX8_priceOf_24, dX8_priceOf_25, dX8_priceOf_26, dX8_priceOf_27, dX8_priceOf_28, dX8_priceOf_29, dX8_priceOf_30, dX8_priceOf_31, dX8_priceOf_34, dX8_priceOf_35, dX8_priceOf_36, dX8_priceOf_38, dX8_priceOf_39, dX8_priceOf_42, dX8_priceOf_44, dX8_priceOf_45, dX8_priceOf_46, dX8_priceOf_47, dX8_priceOf_49, dX8_priceOf_52, dX8_priceOf_53, dX8_priceOf_54, dX8_priceOf_55, dX8_priceOf_57, dX8_priceOf_59, dX8_priceOf_61, dX8_priceOf_64, dX8_priceOf_65, dX8_priceOf_66, dX8_priceOf_67, dX8_priceOf_69, dX8_priceOf_70, dX8_priceOf_73, dX8_priceOf_76, dX8_priceOf_78, dX8_priceOf_81, dX8_priceOf_84, dX8_priceOf_85, dX8_priceOf_88, dX8_priceOf_89, dX8_priceOf_90, dX8_priceOf_91, dX8_priceOf_94, dX8_priceOf_97, dX8_priceOf_100, dX8_priceOf_103, dX8_priceOf_104, cpX8, mT_X8_priceOf, SHl_58, SHl_59, SHl_60, SHl_61, SHl_62, SHl_63, SHl_64, SHl_65, SHl_66, SHl_67, SHl_68, SHl_69, SHl_70, SHl_71, SHl_72, SHl_73, SHl_74, SHl_75, S_X8_letterOf, S_X8_nameIn, S_X8_priceOfName, k0, ix0, ix1, ix2]
  refine ⟨by omega, by omega, ?_⟩
  by_cases h5 : σ w (5 * c + 3) = 5
  · refine hK (fun q => q == 16) 100 _ _ _ _ ?_
    simp only [↓wp, ↓stp, ilen, lnth, st1, st2, nolong, nohead, rnth, ↓gfX, ↓pfX, gfV, pfV, cpF, cpP, cndZ, ↓tgo, ↓tsw, ↓lsw, ↓ldI, ↓ldA, ↓ldL, ↓stI, ↓stA, ↓stL, ↓bin, ↓binD, ↓binL, ↓binDL, ↓una, ↓acV, ↓acK, ↓acpy, ↓inv, entL, nones, List.length_cons, List.length_nil, List.take, List.drop, List.reverse_cons, List.reverse_nil, List.nil_append, List.cons_append, Option.toList_some, Option.toList_none, Nat.reduceAdd, Nat.reduceSub, Nat.reduceLT, Nat.reduceEqDiff, Fin.isValue, aTL, aSZ, Int.toNat_natCast, hset_same, hset_o, hset_s, hset_row, ne_eq, Nat.reduceBEq, beq_self_eq_true, Fin.val_zero, Fin.val_one, fin0, fin1, fin2, fin3, Nat.le_refl, Nat.reduceLeDiff, Nat.zero_le, Int.reduceAdd, Int.reduceNeg, Int.reduceLE, Int.reduceLT, Int.reduceToNat, Int.reduceMul, Int.cast_ofNat_Int, Nat.reduceMod, ↓reduceIte, if_true, if_false, and_true, true_and, or_true, true_or, false_or, or_false, and_self, not_true_eq_false, not_false_eq_true, Bool.false_eq_true, reduceCtorEq, false_implies, true_implies, implies_true, and_false, false_and, dX8_priceOf_0, dX8_priceOf_1, dX8_priceOf_2, dX8_priceOf_3, dX8_priceOf_4, dX8_priceOf_5, dX8_priceOf_6, dX8_priceOf_7, dX8_priceOf_8, dX8_priceOf_9, dX8_priceOf_10, dX8_priceOf_11, dX8_priceOf_13, dX8_priceOf_14, dX8_priceOf_16, dX8_priceOf_18, dX8_priceOf_20, dX8_priceOf_23, dX8_priceOf_24, dX8_priceOf_25, dX8_priceOf_26, dX8_priceOf_27, dX8_priceOf_28, dX8_priceOf_29, dX8_priceOf_30, dX8_priceOf_31, dX8_priceOf_34, dX8_priceOf_35, dX8_priceOf_36, dX8_priceOf_38, dX8_priceOf_39, dX8_priceOf_42, dX8_priceOf_44, dX8_priceOf_45, dX8_priceOf_46, dX8_priceOf_47, dX8_priceOf_49, dX8_priceOf_52, dX8_priceOf_53, dX8_priceOf_54, dX8_priceOf_55, dX8_priceOf_57, dX8_priceOf_59, dX8_priceOf_61, dX8_priceOf_64, dX8_priceOf_65, dX8_priceOf_66, dX8_priceOf_67, dX8_priceOf_69, dX8_priceOf_70, dX8_priceOf_73, dX8_priceOf_76, dX8_priceOf_78, dX8_priceOf_81, dX8_priceOf_84, dX8_priceOf_85, dX8_priceOf_88, dX8_priceOf_89, dX8_priceOf_90, dX8_priceOf_91, dX8_priceOf_94, dX8_priceOf_97, dX8_priceOf_100, dX8_priceOf_103, dX8_priceOf_104, cpX8, mT_X8_priceOf, SHl_58, SHl_59, SHl_60, SHl_61, SHl_62, SHl_63, SHl_64, SHl_65, SHl_66, SHl_67, SHl_68, SHl_69, SHl_70, SHl_71, SHl_72, SHl_73, SHl_74, SHl_75, S_X8_letterOf, S_X8_nameIn, S_X8_priceOfName, k0, ix0, ix1, ix2]
    unfold pV at hq
    rw [e1, if_pos h5] at hq
    exact ⟨⟨by omega, by omega⟩, ⟨by omega, by omega⟩, fun q => hq, fun q => ⟨by omega, by omega, ⟨by omega, by omega⟩, ⟨by omega, by omega⟩, fun _ => hq, fun z => absurd h5 z⟩⟩
  · exact outer h5 (σ w (5 * c + 5)).toNat 0 (by omega) none none
