/-! ===== the class: note, chord, whole, price, cost, fits, count, as ===== -/
def S_X7_note : MSpec := fun a σ Q => match a with
  | [.inr (.inl 0), .inl k, .inl w] => R32 k ∧ R32 w ∧ xPre σ ∧ (if ¬ (0 ≤ k ∧ k < σ 7 2) ∨ ¬ (0 ≤ w ∧ w ≤ 5) then Q (some (.inl (-1000001))) σ else ∃ c j : Nat, c < ncV (vC σ 7) ∧ (j : Int) < vC σ 7 5 c ∧ k = vC σ 7 4 c + j ∧ (if w = 0 then Q (some (.inl (vC σ 7 6 k.toNat))) σ else if w = 1 then Q (some (.inl (c : Int))) σ else ∀ τ, xS σ τ → Q (some (.inl (ntV (vC σ 7) c j w))) τ))
  | _ => False
theorem rc_X7_note : ∀ a σ Q, S_X7_note a σ Q → ∃ (p : Nat) (r : List AV), a = .inr (.inl p) :: r ∧ p < 76 ∧ (SH p).1 = 4 ∧ (SH p).2.1 = 6 := by
  intro a σ Q h
  unfold S_X7_note at h
  split at h
  · exact ⟨0, _, rfl, by decide, rfl, rfl⟩
  · exact h.elim
def mT_X7_note (i : Nat) : Option (Nat × Bool × MSpec) := match i with
  | 147 => some (2, true, S_X7_isNote)
  | 186 => some (1, false, S_X3_letterOf)
  | 191 => some (1, false, S_X3_alterOf)
  | 210 => some (1, true, S_X7_settled)
  | _ => none
theorem mT_X7_note_ok {l : Launch} {n : Nat} (hn : 5 ≤ n) : ∀ i e, mT_X7_note i = some e → mV l (rmOf n) RX7 i e := by
  intro i e h
  unfold mT_X7_note at h
  split at h
  · cases h; exact mvI (lv := 0) (ci := 6) (T := TX7) (N := 15) mw_X7_isNote rfl (by omega) (by decide) (by decide +kernel) (gtm 434 (by decide +kernel) (by decide +kernel)) rc_X7_isNote ok_X7_isNote
  · cases h; exact mvS (lv := 1) mw_X3_letterOf (by omega) (by decide) (by decide +kernel) (Or.inl (gtm 494 (by decide +kernel) (by decide +kernel))) ok_X3_letterOf
  · cases h; exact mvS (lv := 1) mw_X3_alterOf (by omega) (by decide) (by decide +kernel) (Or.inl (gtm 498 (by decide +kernel) (by decide +kernel))) ok_X3_alterOf
  · cases h; exact mvI (lv := 4) (ci := 6) (T := TX7) (N := 15) mw_X7_settled rfl (by omega) (by decide) (by decide +kernel) (gtm 528 (by decide +kernel) (by decide +kernel)) rc_X7_settled ok_X7_settled
  · cases h
set_option maxRecDepth 100000 in
set_option maxHeartbeats 4000000 in
theorem ok_X7_note : ∀ l n, 5 ≤ n → ∀ a σ Q, S_X7_note a σ Q → AM l n yX7_note cX7_note 3 (some .int) a σ Q := by
  intro l n hn a σ Q hS
  unfold S_X7_note at hS
  split at hS
  rotate_left
  · exact hS.elim
  rename_i k w
  obtain ⟨⟨c1, c2⟩, ⟨w1, w2⟩, hp, hq⟩ := hS
  refine am_ofF 1 cpX7 mT_X7_note (plainFor_of_name (by decide +kernel)) (rfl) (Nat.le_of_ble_eq_true rfl) (cpX7_ok) (mT_X7_note_ok hn) (fun K hK => ?_)
  refine hK (fun _ => false) 200 _ _ _ _ ?_
  simp only [↓wp, ↓stp, ilen, lnth, st1, st2, nolong, nohead, rnth, ↓gfX, ↓pfX, gfV, pfV, cpF, cpP, cndZ, ↓tgo, ↓tsw, ↓lsw, ↓ldI, ↓ldA, ↓ldL, ↓stI, ↓stA, ↓stL, ↓bin, ↓binD, ↓binL, ↓binDL, ↓una, ↓acV, ↓acK, ↓acpy, ↓inv, entL, nones, List.length_cons, List.length_nil, List.take, List.drop, List.reverse_cons, List.reverse_nil, List.nil_append, List.cons_append, Option.toList_some, Option.toList_none, Nat.reduceAdd, Nat.reduceSub, Nat.reduceLT, Nat.reduceEqDiff, Fin.isValue, aTL, aSZ, Int.toNat_natCast, hset_same, hset_o, hset_s, hset_row, ne_eq, Nat.reduceBEq, beq_self_eq_true, Fin.val_zero, Fin.val_one, fin0, fin1, fin2, fin3, Nat.le_refl, Nat.reduceLeDiff, Nat.zero_le, Int.reduceAdd, Int.reduceNeg, Int.reduceLE, Int.reduceLT, Int.reduceToNat, Int.reduceMul, Int.cast_ofNat_Int, Nat.reduceMod, ↓reduceIte, if_true, if_false, and_true, true_and, or_true, true_or, false_or, or_false, and_self, not_true_eq_false, not_false_eq_true, Bool.false_eq_true, reduceCtorEq, false_implies, true_implies, implies_true, and_false, false_and, dX7_note_0, dX7_note_1, dX7_note_2, dX7_note_5, dX7_note_8, dX7_note_10, dX7_note_11, dX7_note_12, dX7_note_52, dX7_note_53, dX7_note_56, dX7_note_59, dX7_note_60, dX7_note_61, dX7_note_62, dX7_note_63, dX7_note_66, dX7_note_69, dX7_note_70, dX7_note_71, dX7_note_72, dX7_note_73, dX7_note_76, dX7_note_79, dX7_note_80, dX7_note_81, dX7_note_82, dX7_note_83, dX7_note_86, dX7_note_89, dX7_note_90, dX7_note_91, dX7_note_94, dX7_note_95, dX7_note_96, dX7_note_99, dX7_note_102, dX7_note_103, dX7_note_104, dX7_note_107, dX7_note_108, dX7_note_109, dX7_note_112, dX7_note_115, dX7_note_116, dX7_note_117, dX7_note_118, dX7_note_120, cpX7, mT_X7_note, SHl_0, SHl_1, SHl_2, SHl_3, SHl_4, SHl_5, SHl_6, SHl_7, SHl_8, SHl_9, SHl_10, SHl_11, SHl_12, SHl_13, SHl_14, SHl_15, SHl_16, SHl_17, SHl_18, SHl_19, SHl_20, SHl_21, SHl_22, SHl_23, SHl_24, SHl_25, SHl_26, SHl_27, SHl_28, SHl_29, SHl_30, SHl_31, SHl_32, SHl_33, SHl_34, SHl_35, SHl_36, SHl_37, SHl_38, SHl_39, SHl_40, SHl_41, SHl_42, SHl_43, SHl_44, SHl_45, SHl_46, SHl_47, SHl_48, SHl_49, SHl_50, SHl_51, SHl_52, SHl_53, SHl_54, SHl_55, SHl_56, SHl_57, S_X3_alterOf, S_X3_letterOf, S_X7_isNote, S_X7_settled]
  obtain ⟨v0, v1, v2⟩ := vC_0 σ 7
  obtain ⟨hV, hco, hc⟩ := id hp
  obtain ⟨o1, o2, o3, o4, oc, on⟩ := id hV
  by_cases hk : (0 ≤ k ∧ k < σ 7 2) ∧ (0 ≤ w ∧ w ≤ 5)
  · rw [if_neg (by omega)] at hq
    obtain ⟨c, j, hcc, hj, hkj, hq⟩ := hq
    have n1 : 1 ≤ σ 7 1 := by
      have := fun h => o4 h
      omega
    have hnc : (ncV (vC σ 7) : Int) = σ 7 1 := by unfold ncV; omega
    have occ := oc c (by omega)
    have hk6 : vC σ 7 6 k.toNat = σ 12 k.toNat := vC_n (by omega)
    have hch : σ 13 k.toNat = c := by
      have := hco c j (by omega) hj
      rw [show k.toNat = (vC σ 7 4 c).toNat + j by omega]
      exact this
    have plb := plV_b hV (c := c) (j := j) hcc
    rw [hk6] at hq
    rw [hch]
    have late : 2 ≤ w → ∀ τ, xS σ τ → bestOk τ → Q (some (.inl (ntV (vC σ 7) c j w))) τ ∧ τ 16 k.toNat = plV (vC σ 7) c j ∧ τ 17 k.toNat = prV (vC σ 7) c j := by
      intro h2 τ hτ hb
      rw [if_neg (by omega), if_neg (by omega)] at hq
      have hs := hb.2.2.2.2
      rw [xP_v hτ.1] at hs
      obtain ⟨h16, h17⟩ := hs c j hcc hj
      rw [show (vC σ 7 4 c).toNat + j = k.toNat by omega] at h16 h17
      exact ⟨hq τ hτ, h16, h17⟩
    have L2 : w = 2 → ∀ τ, xS σ τ → bestOk τ → Q (some (.inl (τ 16 k.toNat))) τ := fun h τ h1 h2 => by
      obtain ⟨a, b, d⟩ := late (by omega) τ h1 h2
      unfold ntV at a
      rw [if_pos h] at a
      rw [b]
      exact a
    have L3 : w = 3 → ∀ τ, xS σ τ → bestOk τ → ((-100000 ≤ τ 16 k.toNat ∧ τ 16 k.toNat ≤ 100000) ∧ Q (some (.inl ((τ 16 k.toNat + 1) % 7))) τ) := fun h τ h1 h2 => by
      obtain ⟨a, b, d⟩ := late (by omega) τ h1 h2
      unfold ntV at a
      rw [if_neg (by omega), if_pos h] at a
      rw [b]
      exact ⟨by omega, a⟩
    have L4 : w = 4 → ∀ τ, xS σ τ → bestOk τ → ((-100000 ≤ τ 16 k.toNat ∧ τ 16 k.toNat ≤ 100000) ∧ Q (some (.inl ((τ 16 k.toNat + 1) / 7))) τ) := fun h τ h1 h2 => by
      obtain ⟨a, b, d⟩ := late (by omega) τ h1 h2
      unfold ntV at a
      rw [if_neg (by omega), if_neg (by omega), if_pos h] at a
      rw [b]
      exact ⟨by omega, a⟩
    have L5 : w = 5 → ∀ τ, xS σ τ → bestOk τ → Q (some (.inl (τ 17 k.toNat))) τ := fun h τ h1 h2 => by
      obtain ⟨a, b, d⟩ := late (by omega) τ h1 h2
      unfold ntV at a
      rw [if_neg (by omega), if_neg (by omega), if_neg (by omega)] at a
      rw [d]
      exact a
    have L0 : w = 0 → Q (some (.inl (σ 12 k.toNat))) σ := fun h => by
      rw [if_pos h] at hq
      exact hq
    have L1 : w = 1 → Q (some (.inl (c : Int))) σ := fun h => by
      rw [if_neg (by omega), if_pos h] at hq
      exact hq
    (repeat' (first | exact hp | exact L0 (by omega) | exact L1 (by omega) | exact L2 (by omega) _ ‹_› ‹_› | exact L3 (by omega) _ ‹_› ‹_› | exact L4 (by omega) _ ‹_› ‹_› | exact L5 (by omega) _ ‹_› ‹_› | apply And.intro | intro _)) <;> omega
  · rw [if_pos (by omega)] at hq
    (repeat' (first | exact hq | apply And.intro | intro _)) <;> first | omega | (exfalso; omega)
def S_X7_chord : MSpec := fun a σ Q => match a with
  | [.inr (.inl 0), .inl c, .inl w] => R32 c ∧ R32 w ∧ xPre σ ∧ (if ¬ (0 ≤ c ∧ c < σ 7 1) then Q (some (.inl (-1000001))) σ else if w = 2 then (∀ τ, xS σ τ → Q (some (.inl ((winV (vC σ 7) c.toNat : Int) - 15))) τ) else if w = 3 then (∀ τ, xS σ τ → Q (some (.inl (pV (vC σ 7) c.toNat ((winV (vC σ 7) c.toNat : Int) - 15)))) τ) else Q (some (.inl (if w = 0 then vC σ 7 5 c.toNat else if w = 1 then vC σ 7 4 c.toNat else if w = 4 then vC σ 7 2 c.toNat else if w = 5 then vC σ 7 3 c.toNat else -1000001))) σ)
  | _ => False
theorem rc_X7_chord : ∀ a σ Q, S_X7_chord a σ Q → ∃ (p : Nat) (r : List AV), a = .inr (.inl p) :: r ∧ p < 76 ∧ (SH p).1 = 4 ∧ (SH p).2.1 = 6 := by
  intro a σ Q h
  unfold S_X7_chord at h
  split at h
  · exact ⟨0, _, rfl, by decide, rfl, rfl⟩
  · exact h.elim
def mT_X7_chord (i : Nat) : Option (Nat × Bool × MSpec) := match i with
  | 161 => some (2, true, S_X7_isChord)
  | 210 => some (1, true, S_X7_settled)
  | 220 => some (2, true, S_X4_sizeOf)
  | 229 => some (3, true, S_X4_priceBy)
  | _ => none
theorem mT_X7_chord_ok {l : Launch} {n : Nat} (hn : 5 ≤ n) : ∀ i e, mT_X7_chord i = some e → mV l (rmOf n) RX7 i e := by
  intro i e h
  unfold mT_X7_chord at h
  split at h
  · cases h; exact mvI (lv := 0) (ci := 6) (T := TX7) (N := 15) mw_X7_isChord rfl (by omega) (by decide) (by decide +kernel) (gtm 457 (by decide +kernel) (by decide +kernel)) rc_X7_isChord ok_X7_isChord
  · cases h; exact mvI (lv := 4) (ci := 6) (T := TX7) (N := 15) mw_X7_settled rfl (by omega) (by decide) (by decide +kernel) (gtm 528 (by decide +kernel) (by decide +kernel)) rc_X7_settled ok_X7_settled
  · cases h; exact mvI (lv := 0) (ci := 3) (T := TX4) (N := 9) mw_X4_sizeOf rfl (by omega) (by decide) (by decide +kernel) (gtm 592 (by decide +kernel) (by decide +kernel)) rc_X4_sizeOf ok_X4_sizeOf
  · cases h; exact mvI (lv := 2) (ci := 3) (T := TX4) (N := 9) mw_X4_priceBy rfl (by omega) (by decide) (by decide +kernel) (gtm 593 (by decide +kernel) (by decide +kernel)) rc_X4_priceBy ok_X4_priceBy
  · cases h
set_option maxRecDepth 100000 in
set_option maxHeartbeats 4000000 in
theorem ok_X7_chord : ∀ l n, 5 ≤ n → ∀ a σ Q, S_X7_chord a σ Q → AM l n yX7_chord cX7_chord 3 (some .int) a σ Q := by
  intro l n hn a σ Q hS
  unfold S_X7_chord at hS
  split at hS
  rotate_left
  · exact hS.elim
  rename_i c w
  obtain ⟨⟨c1, c2⟩, ⟨w1, w2⟩, hp, hq⟩ := hS
  refine am_ofF 1 cpX7 mT_X7_chord (plainFor_of_name (by decide +kernel)) (rfl) (Nat.le_of_ble_eq_true rfl) (cpX7_ok) (mT_X7_chord_ok hn) (fun K hK => ?_)
  refine hK (fun _ => false) 200 _ _ _ _ ?_
  simp only [↓wp, ↓stp, ilen, lnth, st1, st2, nolong, nohead, rnth, ↓gfX, ↓pfX, gfV, pfV, cpF, cpP, cndZ, ↓tgo, ↓tsw, ↓lsw, ↓ldI, ↓ldA, ↓ldL, ↓stI, ↓stA, ↓stL, ↓bin, ↓binD, ↓binL, ↓binDL, ↓una, ↓acV, ↓acK, ↓acpy, ↓inv, entL, nones, List.length_cons, List.length_nil, List.take, List.drop, List.reverse_cons, List.reverse_nil, List.nil_append, List.cons_append, Option.toList_some, Option.toList_none, Nat.reduceAdd, Nat.reduceSub, Nat.reduceLT, Nat.reduceEqDiff, Fin.isValue, aTL, aSZ, Int.toNat_natCast, hset_same, hset_o, hset_s, hset_row, ne_eq, Nat.reduceBEq, beq_self_eq_true, Fin.val_zero, Fin.val_one, fin0, fin1, fin2, fin3, Nat.le_refl, Nat.reduceLeDiff, Nat.zero_le, Int.reduceAdd, Int.reduceNeg, Int.reduceLE, Int.reduceLT, Int.reduceToNat, Int.reduceMul, Int.cast_ofNat_Int, Nat.reduceMod, ↓reduceIte, if_true, if_false, and_true, true_and, or_true, true_or, false_or, or_false, and_self, not_true_eq_false, not_false_eq_true, Bool.false_eq_true, reduceCtorEq, false_implies, true_implies, implies_true, and_false, false_and, dX7_chord_0, dX7_chord_1, dX7_chord_2, dX7_chord_5, dX7_chord_8, dX7_chord_10, dX7_chord_11, dX7_chord_12, dX7_chord_52, dX7_chord_53, dX7_chord_56, dX7_chord_57, dX7_chord_60, dX7_chord_61, dX7_chord_62, dX7_chord_65, dX7_chord_68, dX7_chord_69, dX7_chord_70, dX7_chord_71, dX7_chord_72, dX7_chord_75, dX7_chord_78, dX7_chord_79, dX7_chord_80, dX7_chord_81, dX7_chord_82, dX7_chord_85, dX7_chord_86, dX7_chord_87, dX7_chord_90, dX7_chord_93, dX7_chord_94, dX7_chord_95, dX7_chord_98, dX7_chord_99, dX7_chord_100, dX7_chord_103, dX7_chord_106, dX7_chord_107, dX7_chord_108, dX7_chord_109, dX7_chord_110, dX7_chord_113, dX7_chord_116, dX7_chord_117, dX7_chord_118, dX7_chord_119, dX7_chord_121, cpX7, mT_X7_chord, SHl_0, SHl_1, SHl_2, SHl_3, SHl_4, SHl_5, SHl_6, SHl_7, SHl_8, SHl_9, SHl_10, SHl_11, SHl_12, SHl_13, SHl_14, SHl_15, SHl_16, SHl_17, SHl_18, SHl_19, SHl_20, SHl_21, SHl_22, SHl_23, SHl_24, SHl_25, SHl_26, SHl_27, SHl_28, SHl_29, SHl_30, SHl_31, SHl_32, SHl_33, SHl_34, SHl_35, SHl_36, SHl_37, SHl_38, SHl_39, SHl_40, SHl_41, SHl_42, SHl_43, SHl_44, SHl_45, SHl_46, SHl_47, SHl_48, SHl_49, SHl_50, SHl_51, SHl_52, SHl_53, SHl_54, SHl_55, SHl_56, SHl_57, S_X4_priceBy, S_X4_sizeOf, S_X7_isChord, S_X7_settled]
  obtain ⟨v0, v1, v2⟩ := vC_0 σ 7
  obtain ⟨hV, hco, hc⟩ := id hp
  have o2 := hV.2.1
  by_cases hcc : 0 ≤ c ∧ c < σ 7 1
  · rw [if_neg (by omega)] at hq
    obtain ⟨e1, e2, e3, e4, e5⟩ := vC_c (σ := σ) (p := 7) (c := c.toNat) (by omega)
    simp only [Nat.reduceAdd] at e1 e2 e3 e4 e5
    rw [show c.toNat + 1 = (c + 1).toNat by omega] at e5
    rw [← e2, ← e3, ← e4, e4, ← e5, ← e4]
    have wl := winV_lt hV (by unfold ncV; omega) c.toNat (by unfold ncV; omega)
    have hbw : ∀ τ, xS σ τ → bestOk τ → τ 15 c.toNat = (winV (vC σ 7) c.toNat : Int) - 15 := fun τ hτ hb => by
      have := hb.2.2.2.1 c.toNat (by rw [xP_v hτ.1]; unfold ncV; omega)
      rw [xP_v hτ.1] at this
      exact this
    have p2 : w = 2 → ∀ τ, xS σ τ → bestOk τ → Q (some (.inl (τ 15 c.toNat))) τ := fun h τ hτ hb => by
      rw [if_pos h] at hq
      rw [hbw τ hτ hb]
      exact hq τ hτ
    have p3 : w = 3 → ∀ τ, xS σ τ → bestOk τ → (isPc 7 ∧ okV (vC τ 7) ∧ (0 ≤ c ∧ c < τ 7 1) ∧ (-15 ≤ τ 15 c.toNat ∧ τ 15 c.toNat ≤ 8) ∧ Q (some (.inl (pV (vC τ 7) c.toNat (τ 15 c.toNat)))) τ) := fun h τ hτ hb => by
      rw [if_neg (by omega), if_pos h] at hq
      rw [hbw τ hτ hb, xP_v hτ.1, xP_7 hτ.1]
      exact ⟨isPc_7, hV, hcc, by omega, hq τ hτ⟩
    (repeat' (first | exact hp | exact isPc_7 | exact p2 (by omega) _ ‹_› ‹_› | exact p3 (by omega) _ ‹_› ‹_› | apply And.intro | intro _)) <;> first | omega | (repeat (first | rw [if_pos (by omega)] at hq | rw [if_neg (by omega)] at hq)) <;> exact hq
  · (repeat' (first | apply And.intro | intro _)) <;> first | omega | exact hq | (rw [if_pos (by omega)] at hq; exact hq) | (rw [if_neg (by omega)] at hq; exact hq) | (repeat (first | rw [if_pos (by omega)] at hq | rw [if_neg (by omega)] at hq)) <;> exact hq | assumption | exact R32_of _
def S_X7_whole : MSpec := fun a σ Q => match a with
  | [.inr (.inl 0), .inl w] => R32 w ∧ xPre σ ∧ (if σ 7 1 = 0 then Q (some (.inl (-1000002))) σ else ∀ τ, xS σ τ → Q (some (.inl (whV (vC σ 7) w))) τ)
  | _ => False
theorem rc_X7_whole : ∀ a σ Q, S_X7_whole a σ Q → ∃ (p : Nat) (r : List AV), a = .inr (.inl p) :: r ∧ p < 76 ∧ (SH p).1 = 4 ∧ (SH p).2.1 = 6 := by
  intro a σ Q h
  unfold S_X7_whole at h
  split at h
  · exact ⟨0, _, rfl, by decide, rfl, rfl⟩
  · exact h.elim
def mT_X7_whole (i : Nat) : Option (Nat × Bool × MSpec) := match i with
  | 167 => some (1, true, S_X7_isNoPiece)
  | 210 => some (1, true, S_X7_settled)
  | 247 => some (1, true, S_X7_signatureOfHeads)
  | 251 => some (1, true, S_X7_costOfHeads)
  | 254 => some (1, true, S_X7_cheapestOne)
  | 257 => some (2, true, S_X7_costOfOne)
  | _ => none
theorem mT_X7_whole_ok {l : Launch} {n : Nat} (hn : 6 ≤ n) : ∀ i e, mT_X7_whole i = some e → mV l (rmOf n) RX7 i e := by
  intro i e h
  unfold mT_X7_whole at h
  split at h
  · cases h; exact mvI (lv := 0) (ci := 6) (T := TX7) (N := 15) mw_X7_isNoPiece rfl (by omega) (by decide) (by decide +kernel) (gtm 465 (by decide +kernel) (by decide +kernel)) rc_X7_isNoPiece ok_X7_isNoPiece
  · cases h; exact mvI (lv := 4) (ci := 6) (T := TX7) (N := 15) mw_X7_settled rfl (by omega) (by decide) (by decide +kernel) (gtm 528 (by decide +kernel) (by decide +kernel)) rc_X7_settled ok_X7_settled
  · cases h; exact mvI (lv := 5) (ci := 6) (T := TX7) (N := 15) mw_X7_signatureOfHeads rfl (by omega) (by decide) (by decide +kernel) (gtm 598 (by decide +kernel) (by decide +kernel)) rc_X7_signatureOfHeads ok_X7_signatureOfHeads
  · cases h; exact mvI (lv := 5) (ci := 6) (T := TX7) (N := 15) mw_X7_costOfHeads rfl (by omega) (by decide) (by decide +kernel) (gtm 607 (by decide +kernel) (by decide +kernel)) rc_X7_costOfHeads ok_X7_costOfHeads
  · cases h; exact mvI (lv := 4) (ci := 6) (T := TX7) (N := 15) mw_X7_cheapestOne rfl (by omega) (by decide) (by decide +kernel) (gtm 611 (by decide +kernel) (by decide +kernel)) rc_X7_cheapestOne ok_X7_cheapestOne
  · cases h; exact mvI (lv := 3) (ci := 6) (T := TX7) (N := 15) mw_X7_costOfOne rfl (by omega) (by decide) (by decide +kernel) (gtm 615 (by decide +kernel) (by decide +kernel)) rc_X7_costOfOne ok_X7_costOfOne
  · cases h
set_option maxRecDepth 100000 in
set_option maxHeartbeats 4000000 in
theorem ok_X7_whole : ∀ l n, 6 ≤ n → ∀ a σ Q, S_X7_whole a σ Q → AM l n yX7_whole cX7_whole 2 (some .int) a σ Q := by
  intro l n hn a σ Q hS
  unfold S_X7_whole at hS
  split at hS
  rotate_left
  · exact hS.elim
  rename_i w
  obtain ⟨⟨w1, w2⟩, hp, hq⟩ := hS
  refine am_ofF 1 cpX7 mT_X7_whole (plainFor_of_name (by decide +kernel)) (rfl) (Nat.le_of_ble_eq_true rfl) (cpX7_ok) (mT_X7_whole_ok hn) (fun K hK => ?_)
  refine hK (fun _ => false) 200 _ _ _ _ ?_
  simp only [↓wp, ↓stp, ilen, lnth, st1, st2, nolong, nohead, rnth, ↓gfX, ↓pfX, gfV, pfV, cpF, cpP, cndZ, ↓tgo, ↓tsw, ↓lsw, ↓ldI, ↓ldA, ↓ldL, ↓stI, ↓stA, ↓stL, ↓bin, ↓binD, ↓binL, ↓binDL, ↓una, ↓acV, ↓acK, ↓acpy, ↓inv, entL, nones, List.length_cons, List.length_nil, List.take, List.drop, List.reverse_cons, List.reverse_nil, List.nil_append, List.cons_append, Option.toList_some, Option.toList_none, Nat.reduceAdd, Nat.reduceSub, Nat.reduceLT, Nat.reduceEqDiff, Fin.isValue, aTL, aSZ, Int.toNat_natCast, hset_same, hset_o, hset_s, hset_row, ne_eq, Nat.reduceBEq, beq_self_eq_true, Fin.val_zero, Fin.val_one, fin0, fin1, fin2, fin3, Nat.le_refl, Nat.reduceLeDiff, Nat.zero_le, Int.reduceAdd, Int.reduceNeg, Int.reduceLE, Int.reduceLT, Int.reduceToNat, Int.reduceMul, Int.cast_ofNat_Int, Nat.reduceMod, ↓reduceIte, if_true, if_false, and_true, true_and, or_true, true_or, false_or, or_false, and_self, not_true_eq_false, not_false_eq_true, Bool.false_eq_true, reduceCtorEq, false_implies, true_implies, implies_true, and_false, false_and, dX7_whole_0, dX7_whole_1, dX7_whole_4, dX7_whole_7, dX7_whole_9, dX7_whole_10, dX7_whole_11, dX7_whole_52, dX7_whole_53, dX7_whole_56, dX7_whole_59, dX7_whole_60, dX7_whole_61, dX7_whole_64, dX7_whole_67, dX7_whole_68, dX7_whole_69, dX7_whole_72, dX7_whole_75, dX7_whole_76, dX7_whole_77, dX7_whole_80, dX7_whole_81, dX7_whole_82, dX7_whole_85, dX7_whole_86, dX7_whole_87, dX7_whole_88, dX7_whole_91, dX7_whole_94, dX7_whole_95, dX7_whole_96, dX7_whole_99, dX7_whole_100, dX7_whole_102, cpX7, mT_X7_whole, SHl_0, SHl_1, SHl_2, SHl_3, SHl_4, SHl_5, SHl_6, SHl_7, SHl_8, SHl_9, SHl_10, SHl_11, SHl_12, SHl_13, SHl_14, SHl_15, SHl_16, SHl_17, SHl_18, SHl_19, SHl_20, SHl_21, SHl_22, SHl_23, SHl_24, SHl_25, SHl_26, SHl_27, SHl_28, SHl_29, SHl_30, SHl_31, SHl_32, SHl_33, SHl_34, SHl_35, SHl_36, SHl_37, SHl_38, SHl_39, SHl_40, SHl_41, SHl_42, SHl_43, SHl_44, SHl_45, SHl_46, SHl_47, SHl_48, SHl_49, SHl_50, SHl_51, SHl_52, SHl_53, SHl_54, SHl_55, SHl_56, SHl_57, S_X7_cheapestOne, S_X7_costOfHeads, S_X7_costOfOne, S_X7_isNoPiece, S_X7_settled, S_X7_signatureOfHeads]
  obtain ⟨V, hVe⟩ : ∃ V, V = vC σ 7 := ⟨_, rfl⟩
  simp only [← hVe] at hq ⊢
  obtain ⟨v0, v1, v2⟩ := vC_0 σ 7
  rw [← hVe] at v0 v1 v2
  obtain ⟨hV, hco, hc⟩ := id hp
  rw [← hVe] at hV
  have o2 := hV.2.1
  by_cases h1 : σ 7 1 = 0
  · rw [if_pos h1] at hq
    (repeat' (first | exact hq | apply And.intro | intro _)) <;> first | omega | (exfalso; omega)
  · rw [if_neg h1] at hq
    have hnc : 0 < ncV V := by unfold ncV; omega
    have n1 : 1 ≤ σ 7 1 := by omega
    have fh := fstN_ok (hcV V) 15 (fun b hbb => by have := hcV_b hV hnc hbb; omega) (by decide)
    have fp := fstN_lt (plZ V) (n := 24) (fun b hbb => by have := plZ_b hV hbb; omega) (by decide)
    have hvt : ∀ τ, xS σ τ → vC τ 7 = V := fun τ h => by rw [xP_v h.1, hVe]
    have q0 : w = 0 → ∀ τ, xS σ τ → bestOk τ → Q (some (.inl (τ 14 0))) τ := fun h τ hτ hb => by
      have := hq τ hτ
      unfold whV at this
      rw [if_pos h] at this
      rw [hb.1, hvt τ hτ]
      exact this
    have q1 : w = 1 → ∀ τ, xS σ τ → bestOk τ → Q (some (.inl (τ 14 1))) τ := fun h τ hτ hb => by
      have := hq τ hτ
      unfold whV at this
      rw [if_neg (by omega), if_pos h] at this
      rw [hb.2.1, hvt τ hτ]
      exact this
    have q2 : w = 2 → ∀ τ, xS σ τ → bestOk τ → Q (some (.inl (τ 14 2))) τ := fun h τ hτ hb => by
      have := hq τ hτ
      unfold whV at this
      rw [if_neg (by omega), if_neg (by omega), if_pos h] at this
      rw [hb.2.2.1, hvt τ hτ]
      exact this
    have q3 : w = 3 → ∀ τ, xS σ τ → Q (some (.inl (fstN (hcV V) 15 : Int))) τ := fun h τ hτ => by
      have := hq τ hτ
      unfold whV at this
      rw [if_neg (by omega), if_neg (by omega), if_neg (by omega), if_pos h] at this
      exact this
    have q4 : w = 4 → ∀ τ, xS σ τ → Q (some (.inl (lstN (hcV V) 15))) τ := fun h τ hτ => by
      have := hq τ hτ
      unfold whV at this
      rw [if_neg (by omega), if_neg (by omega), if_neg (by omega), if_neg (by omega), if_pos h, fh.2.1] at this
      exact this
    have q5 : w = 5 → Q (some (.inl (pcZ V ((fstN (plZ V) 24 : Int) - 15) (ncV V)))) σ := fun h => by
      have := hq σ (xS_rf hc)
      unfold whV at this
      rw [if_neg (by omega), if_neg (by omega), if_neg (by omega), if_neg (by omega), if_neg (by omega), if_pos h] at this
      exact this
    have q6 : w = 6 → Q (some (.inl ((fstN (plZ V) 24 : Int) - 15))) σ := fun h => by
      have := hq σ (xS_rf hc)
      unfold whV at this
      rw [if_neg (by omega), if_neg (by omega), if_neg (by omega), if_neg (by omega), if_neg (by omega), if_neg (by omega), if_pos h] at this
      exact this
    have q7 : (w < 0 ∨ 6 < w) → Q (some (.inl (-1000001))) σ := fun h => by
      have := hq σ (xS_rf hc)
      unfold whV at this
      rw [if_neg (by omega), if_neg (by omega), if_neg (by omega), if_neg (by omega), if_neg (by omega), if_neg (by omega), if_neg (by omega)] at this
      exact this
    (repeat' (first | exact hp | exact hV | exact q0 (by omega) _ ‹_› ‹_› | exact q1 (by omega) _ ‹_› ‹_› | exact q2 (by omega) _ ‹_› ‹_› | exact q3 (by omega) _ ‹_› | exact q4 (by omega) _ ‹_› | exact q5 (by omega) | exact q6 (by omega) | exact q7 (by omega) | apply And.intro | intro _)) <;> omega
def S_X7_price : MSpec := fun a σ Q => match a with
  | [.inr (.inl 0), .inl c, .inl x] => R32 c ∧ R32 x ∧ okV (vC σ 7) ∧ Q (some (.inl (if (0 ≤ c ∧ c < σ 7 1) ∧ (-15 ≤ x ∧ x ≤ 8) then pV (vC σ 7) c.toNat x else -1000001))) σ
  | _ => False
theorem rc_X7_price : ∀ a σ Q, S_X7_price a σ Q → ∃ (p : Nat) (r : List AV), a = .inr (.inl p) :: r ∧ p < 76 ∧ (SH p).1 = 4 ∧ (SH p).2.1 = 6 := by
  intro a σ Q h
  unfold S_X7_price at h
  split at h
  · exact ⟨0, _, rfl, by decide, rfl, rfl⟩
  · exact h.elim
def mT_X7_price (i : Nat) : Option (Nat × Bool × MSpec) := match i with
  | 161 => some (2, true, S_X7_isChord)
  | 197 => some (1, false, S_X7_isWindow)
  | 229 => some (3, true, S_X4_priceBy)
  | _ => none
theorem mT_X7_price_ok {l : Launch} {n : Nat} (hn : 3 ≤ n) : ∀ i e, mT_X7_price i = some e → mV l (rmOf n) RX7 i e := by
  intro i e h
  unfold mT_X7_price at h
  split at h
  · cases h; exact mvI (lv := 0) (ci := 6) (T := TX7) (N := 15) mw_X7_isChord rfl (by omega) (by decide) (by decide +kernel) (gtm 457 (by decide +kernel) (by decide +kernel)) rc_X7_isChord ok_X7_isChord
  · cases h; exact mvS (lv := 0) mw_X7_isWindow (by omega) (by decide) (by decide +kernel) (Or.inl (gtm 511 (by decide +kernel) (by decide +kernel))) ok_X7_isWindow
  · cases h; exact mvI (lv := 2) (ci := 3) (T := TX4) (N := 9) mw_X4_priceBy rfl (by omega) (by decide) (by decide +kernel) (gtm 593 (by decide +kernel) (by decide +kernel)) rc_X4_priceBy ok_X4_priceBy
  · cases h
set_option maxRecDepth 100000 in
set_option maxHeartbeats 4000000 in
theorem ok_X7_price : ∀ l n, 3 ≤ n → ∀ a σ Q, S_X7_price a σ Q → AM l n yX7_price cX7_price 3 (some .int) a σ Q := by
  intro l n hn a σ Q hS
  unfold S_X7_price at hS
  split at hS
  rotate_left
  · exact hS.elim
  rename_i c x
  obtain ⟨⟨c1, c2⟩, ⟨x1, x2⟩, hV, hq⟩ := hS
  refine am_ofF 1 cpX7 mT_X7_price (plainFor_of_name (by decide +kernel)) (rfl) (Nat.le_of_ble_eq_true rfl) (cpX7_ok) (mT_X7_price_ok hn) (fun K hK => ?_)
  refine hK (fun _ => false) 200 _ _ _ _ ?_
  simp only [↓wp, ↓stp, ilen, lnth, st1, st2, nolong, nohead, rnth, ↓gfX, ↓pfX, gfV, pfV, cpF, cpP, cndZ, ↓tgo, ↓tsw, ↓lsw, ↓ldI, ↓ldA, ↓ldL, ↓stI, ↓stA, ↓stL, ↓bin, ↓binD, ↓binL, ↓binDL, ↓una, ↓acV, ↓acK, ↓acpy, ↓inv, entL, nones, List.length_cons, List.length_nil, List.take, List.drop, List.reverse_cons, List.reverse_nil, List.nil_append, List.cons_append, Option.toList_some, Option.toList_none, Nat.reduceAdd, Nat.reduceSub, Nat.reduceLT, Nat.reduceEqDiff, Fin.isValue, aTL, aSZ, Int.toNat_natCast, hset_same, hset_o, hset_s, hset_row, ne_eq, Nat.reduceBEq, beq_self_eq_true, Fin.val_zero, Fin.val_one, fin0, fin1, fin2, fin3, Nat.le_refl, Nat.reduceLeDiff, Nat.zero_le, Int.reduceAdd, Int.reduceNeg, Int.reduceLE, Int.reduceLT, Int.reduceToNat, Int.reduceMul, Int.cast_ofNat_Int, Nat.reduceMod, ↓reduceIte, if_true, if_false, and_true, true_and, or_true, true_or, false_or, or_false, and_self, not_true_eq_false, not_false_eq_true, Bool.false_eq_true, reduceCtorEq, false_implies, true_implies, implies_true, and_false, false_and, dX7_price_0, dX7_price_1, dX7_price_2, dX7_price_5, dX7_price_8, dX7_price_9, dX7_price_12, dX7_price_15, dX7_price_16, dX7_price_19, dX7_price_20, dX7_price_21, dX7_price_24, dX7_price_27, dX7_price_29, cpX7, mT_X7_price, SHl_0, SHl_1, SHl_2, SHl_3, SHl_4, SHl_5, SHl_6, SHl_7, SHl_8, SHl_9, SHl_10, SHl_11, SHl_12, SHl_13, SHl_14, SHl_15, SHl_16, SHl_17, SHl_18, SHl_19, SHl_20, SHl_21, SHl_22, SHl_23, SHl_24, SHl_25, SHl_26, SHl_27, SHl_28, SHl_29, SHl_30, SHl_31, SHl_32, SHl_33, SHl_34, SHl_35, SHl_36, SHl_37, SHl_38, SHl_39, SHl_40, SHl_41, SHl_42, SHl_43, SHl_44, SHl_45, SHl_46, SHl_47, SHl_48, SHl_49, SHl_50, SHl_51, SHl_52, SHl_53, SHl_54, SHl_55, SHl_56, SHl_57, S_X4_priceBy, S_X7_isChord, S_X7_isWindow]
  obtain ⟨v0, v1, v2⟩ := vC_0 σ 7
  have o2 := hV.2.1
  (repeat' (first | exact isPc_7 | exact hV | apply And.intro | intro _)) <;> first | omega | (repeat (first | rw [if_pos (by omega)] at hq | rw [if_neg (by omega)] at hq)) <;> exact hq
def S_X7_cost : MSpec := fun a σ Q => match a with
  | [.inr (.inl 0), .inl r, .inl i] => R32 r ∧ R32 i ∧ okV (vC σ 7) ∧ iRow σ ∧ (if σ 7 1 = 0 then Q (some (.inl (-1000002))) σ else if ¬ (0 ≤ r ∧ r < 8) then Q (some (.inl (-1000001))) σ else if σ 4 r.toNat = -1 then Q (some (.inl (-1000011))) (hset σ 0 14 1) else if ¬ (0 ≤ i ∧ σ 7 1 ≤ σ 4 r.toNat - i) then Q (some (.inl (-1000012))) (hset σ 0 14 2) else Q (some (.inl (czZ (vC σ 7) (fun k => σ 2 ((40 * r + i).toNat + k)) (ncV (vC σ 7)) 0 0))) (hset σ 0 14 0))
  | _ => False
theorem rc_X7_cost : ∀ a σ Q, S_X7_cost a σ Q → ∃ (p : Nat) (r : List AV), a = .inr (.inl p) :: r ∧ p < 76 ∧ (SH p).1 = 4 ∧ (SH p).2.1 = 6 := by
  intro a σ Q h
  unfold S_X7_cost at h
  split at h
  · exact ⟨0, _, rfl, by decide, rfl, rfl⟩
  · exact h.elim
def mT_X7_cost (i : Nat) : Option (Nat × Bool × MSpec) := match i with
  | 81 => some (1, false, S_X5_isRow)
  | 86 => some (2, true, S_X7_found)
  | 94 => some (2, true, S_X7_fine)
  | 97 => some (2, true, S_X5_isMissing)
  | 100 => some (4, true, S_X5_holds)
  | 167 => some (1, true, S_X7_isNoPiece)
  | 260 => some (3, true, S_X7_costOfItems)
  | _ => none
theorem mT_X7_cost_ok {l : Launch} {n : Nat} (hn : 4 ≤ n) : ∀ i e, mT_X7_cost i = some e → mV l (rmOf n) RX7 i e := by
  intro i e h
  unfold mT_X7_cost at h
  split at h
  · cases h; exact mvS (lv := 0) mw_X5_isRow (by omega) (by decide) (by decide +kernel) (Or.inl (gtm 274 (by decide +kernel) (by decide +kernel))) ok_X5_isRow
  · cases h; exact mvI (lv := 0) (ci := 6) (T := TX7) (N := 15) mw_X7_found rfl (by omega) (by decide) (by decide +kernel) (gtm 278 (by decide +kernel) (by decide +kernel)) rc_X7_found ok_X7_found
  · cases h; exact mvI (lv := 0) (ci := 6) (T := TX7) (N := 15) mw_X7_fine rfl (by omega) (by decide) (by decide +kernel) (gtm 287 (by decide +kernel) (by decide +kernel)) rc_X7_fine ok_X7_fine
  · cases h; exact mvI (lv := 0) (ci := 4) (T := TX5) (N := 3) mw_X5_isMissing rfl (by omega) (by decide) (by decide +kernel) (gtm 295 (by decide +kernel) (by decide +kernel)) rc_X5_isMissing ok_X5_isMissing
  · cases h; exact mvI (lv := 0) (ci := 4) (T := TX5) (N := 3) mw_X5_holds rfl (by omega) (by decide) (by decide +kernel) (gtm 299 (by decide +kernel) (by decide +kernel)) rc_X5_holds ok_X5_holds
  · cases h; exact mvI (lv := 0) (ci := 6) (T := TX7) (N := 15) mw_X7_isNoPiece rfl (by omega) (by decide) (by decide +kernel) (gtm 465 (by decide +kernel) (by decide +kernel)) rc_X7_isNoPiece ok_X7_isNoPiece
  · cases h; exact mvI (lv := 3) (ci := 6) (T := TX7) (N := 15) mw_X7_costOfItems rfl (by omega) (by decide) (by decide +kernel) (gtm 627 (by decide +kernel) (by decide +kernel)) rc_X7_costOfItems ok_X7_costOfItems
  · cases h
set_option maxRecDepth 100000 in
set_option maxHeartbeats 4000000 in
theorem ok_X7_cost : ∀ l n, 4 ≤ n → ∀ a σ Q, S_X7_cost a σ Q → AM l n yX7_cost cX7_cost 3 (some .int) a σ Q := by
  intro l n hn a σ Q hS
  unfold S_X7_cost at hS
  split at hS
  rotate_left
  · exact hS.elim
  rename_i r i
  obtain ⟨⟨c1, c2⟩, ⟨x1, x2⟩, hV, hI, hq⟩ := hS
  refine am_ofF 1 cpX7 mT_X7_cost (plainFor_of_name (by decide +kernel)) (rfl) (Nat.le_of_ble_eq_true rfl) (cpX7_ok) (mT_X7_cost_ok hn) (fun K hK => ?_)
  refine hK (fun _ => false) 200 _ _ _ _ ?_
  simp only [↓wp, ↓stp, ilen, lnth, st1, st2, nolong, nohead, rnth, ↓gfX, ↓pfX, gfV, pfV, cpF, cpP, cndZ, ↓tgo, ↓tsw, ↓lsw, ↓ldI, ↓ldA, ↓ldL, ↓stI, ↓stA, ↓stL, ↓bin, ↓binD, ↓binL, ↓binDL, ↓una, ↓acV, ↓acK, ↓acpy, ↓inv, entL, nones, List.length_cons, List.length_nil, List.take, List.drop, List.reverse_cons, List.reverse_nil, List.nil_append, List.cons_append, Option.toList_some, Option.toList_none, Nat.reduceAdd, Nat.reduceSub, Nat.reduceLT, Nat.reduceEqDiff, Fin.isValue, aTL, aSZ, Int.toNat_natCast, hset_same, hset_o, hset_s, hset_row, ne_eq, Nat.reduceBEq, beq_self_eq_true, Fin.val_zero, Fin.val_one, fin0, fin1, fin2, fin3, Nat.le_refl, Nat.reduceLeDiff, Nat.zero_le, Int.reduceAdd, Int.reduceNeg, Int.reduceLE, Int.reduceLT, Int.reduceToNat, Int.reduceMul, Int.cast_ofNat_Int, Nat.reduceMod, ↓reduceIte, if_true, if_false, and_true, true_and, or_true, true_or, false_or, or_false, and_self, not_true_eq_false, not_false_eq_true, Bool.false_eq_true, reduceCtorEq, false_implies, true_implies, implies_true, and_false, false_and, dX7_cost_0, dX7_cost_1, dX7_cost_4, dX7_cost_7, dX7_cost_9, dX7_cost_10, dX7_cost_11, dX7_cost_14, dX7_cost_17, dX7_cost_19, dX7_cost_20, dX7_cost_21, dX7_cost_24, dX7_cost_25, dX7_cost_28, dX7_cost_31, dX7_cost_32, dX7_cost_33, dX7_cost_36, dX7_cost_37, dX7_cost_38, dX7_cost_41, dX7_cost_42, dX7_cost_43, dX7_cost_44, dX7_cost_47, dX7_cost_50, dX7_cost_53, dX7_cost_56, dX7_cost_57, dX7_cost_58, dX7_cost_61, dX7_cost_62, dX7_cost_63, dX7_cost_64, dX7_cost_65, dX7_cost_66, dX7_cost_69, dX7_cost_72, cpX7, mT_X7_cost, SHl_0, SHl_1, SHl_2, SHl_3, SHl_4, SHl_5, SHl_6, SHl_7, SHl_8, SHl_9, SHl_10, SHl_11, SHl_12, SHl_13, SHl_14, SHl_15, SHl_16, SHl_17, SHl_18, SHl_19, SHl_20, SHl_21, SHl_22, SHl_23, SHl_24, SHl_25, SHl_26, SHl_27, SHl_28, SHl_29, SHl_30, SHl_31, SHl_32, SHl_33, SHl_34, SHl_35, SHl_36, SHl_37, SHl_38, SHl_39, SHl_40, SHl_41, SHl_42, SHl_43, SHl_44, SHl_45, SHl_46, SHl_47, SHl_48, SHl_49, SHl_50, SHl_51, SHl_52, SHl_53, SHl_54, SHl_55, SHl_56, SHl_57, S_X5_holds, S_X5_isMissing, S_X5_isRow, S_X7_costOfItems, S_X7_fine, S_X7_found, S_X7_isNoPiece]
  obtain ⟨v0, v1, v2⟩ := vC_0 σ 7
  have o2 := hV.2.1
  have hJ := hI.2
  by_cases hr : 0 ≤ r ∧ r < 8
  · have h1 := hI.1 r.toNat (by omega)
    (repeat' (first | exact hJ | exact hV | apply And.intro | intro _)) <;> first | omega | exact hJ _ | (repeat (first | rw [if_pos (by omega)] at hq | rw [if_neg (by omega)] at hq)) <;> exact hq
  · (repeat' (first | apply And.intro | intro _)) <;> first | omega | exact hq | (rw [if_pos (by omega)] at hq; exact hq) | (rw [if_neg (by omega)] at hq; exact hq) | (repeat (first | rw [if_pos (by omega)] at hq | rw [if_neg (by omega)] at hq)) <;> exact hq | assumption | exact R32_of _
def S_X7_count : MSpec := fun a σ Q => match a with
  | [.inr (.inl 0), .inl v] => R32 v ∧ (∀ r, r < 8 → -1 ≤ σ 4 r ∧ σ 4 r ≤ 40) ∧ Q (some (.inl (if v = 0 then howM (σ 4) 8 else if v = 1 then σ 7 1 else if v = 2 then σ 7 2 else if v = 3 then σ 7 0 else if v = 4 then σ 38 0 else if v = 5 then σ 5 1 else -1000001))) σ
  | _ => False
theorem rc_X7_count : ∀ a σ Q, S_X7_count a σ Q → ∃ (p : Nat) (r : List AV), a = .inr (.inl p) :: r ∧ p < 76 ∧ (SH p).1 = 4 ∧ (SH p).2.1 = 6 := by
  intro a σ Q h
  unfold S_X7_count at h
  split at h
  · exact ⟨0, _, rfl, by decide, rfl, rfl⟩
  · exact h.elim
def mT_X7_count (i : Nat) : Option (Nat × Bool × MSpec) := match i with
  | 299 => some (1, true, S_X5_howMany)
  | _ => none
theorem mT_X7_count_ok {l : Launch} {n : Nat} (hn : 1 ≤ n) : ∀ i e, mT_X7_count i = some e → mV l (rmOf n) RX7 i e := by
  intro i e h
  unfold mT_X7_count at h
  split at h
  · cases h; exact mvI (lv := 0) (ci := 4) (T := TX5) (N := 3) mw_X5_howMany rfl (by omega) (by decide) (by decide +kernel) (gtm 723 (by decide +kernel) (by decide +kernel)) rc_X5_howMany ok_X5_howMany
  · cases h
set_option maxRecDepth 100000 in
set_option maxHeartbeats 4000000 in
theorem ok_X7_count : ∀ l n, 1 ≤ n → ∀ a σ Q, S_X7_count a σ Q → AM l n yX7_count cX7_count 2 (some .int) a σ Q := by
  intro l n hn a σ Q hS
  unfold S_X7_count at hS
  split at hS
  rotate_left
  · exact hS.elim
  rename_i v
  obtain ⟨⟨c1, c2⟩, hI, hq⟩ := hS
  refine am_ofF 1 cpX7 mT_X7_count (plainFor_of_name (by decide +kernel)) (rfl) (Nat.le_of_ble_eq_true rfl) (cpX7_ok) (mT_X7_count_ok hn) (fun K hK => ?_)
  refine hK (fun _ => false) 200 _ _ _ _ ?_
  simp only [↓wp, ↓stp, ilen, lnth, st1, st2, nolong, nohead, rnth, ↓gfX, ↓pfX, gfV, pfV, cpF, cpP, cndZ, ↓tgo, ↓tsw, ↓lsw, ↓ldI, ↓ldA, ↓ldL, ↓stI, ↓stA, ↓stL, ↓bin, ↓binD, ↓binL, ↓binDL, ↓una, ↓acV, ↓acK, ↓acpy, ↓inv, entL, nones, List.length_cons, List.length_nil, List.take, List.drop, List.reverse_cons, List.reverse_nil, List.nil_append, List.cons_append, Option.toList_some, Option.toList_none, Nat.reduceAdd, Nat.reduceSub, Nat.reduceLT, Nat.reduceEqDiff, Fin.isValue, aTL, aSZ, Int.toNat_natCast, hset_same, hset_o, hset_s, hset_row, ne_eq, Nat.reduceBEq, beq_self_eq_true, Fin.val_zero, Fin.val_one, fin0, fin1, fin2, fin3, Nat.le_refl, Nat.reduceLeDiff, Nat.zero_le, Int.reduceAdd, Int.reduceNeg, Int.reduceLE, Int.reduceLT, Int.reduceToNat, Int.reduceMul, Int.cast_ofNat_Int, Nat.reduceMod, ↓reduceIte, if_true, if_false, and_true, true_and, or_true, true_or, false_or, or_false, and_self, not_true_eq_false, not_false_eq_true, Bool.false_eq_true, reduceCtorEq, false_implies, true_implies, implies_true, and_false, false_and, dX7_count_0, dX7_count_1, dX7_count_40, dX7_count_41, dX7_count_44, dX7_count_47, dX7_count_48, dX7_count_49, dX7_count_52, dX7_count_55, dX7_count_56, dX7_count_57, dX7_count_60, dX7_count_63, dX7_count_64, dX7_count_65, dX7_count_68, dX7_count_71, dX7_count_72, dX7_count_73, dX7_count_76, dX7_count_79, dX7_count_80, dX7_count_81, dX7_count_84, dX7_count_87, dX7_count_88, dX7_count_90, cpX7, mT_X7_count, SHl_0, SHl_1, SHl_2, SHl_3, SHl_4, SHl_5, SHl_6, SHl_7, SHl_8, SHl_9, SHl_10, SHl_11, SHl_12, SHl_13, SHl_14, SHl_15, SHl_16, SHl_17, SHl_18, SHl_19, SHl_20, SHl_21, SHl_22, SHl_23, SHl_24, SHl_25, SHl_26, SHl_27, SHl_28, SHl_29, SHl_30, SHl_31, SHl_32, SHl_33, SHl_34, SHl_35, SHl_36, SHl_37, SHl_38, SHl_39, SHl_40, SHl_41, SHl_42, SHl_43, SHl_44, SHl_45, SHl_46, SHl_47, SHl_48, SHl_49, SHl_50, SHl_51, SHl_52, SHl_53, SHl_54, SHl_55, SHl_56, SHl_57, S_X5_howMany]
  (repeat' (first | exact hI | apply And.intro | intro _)) <;> first | omega | (repeat (first | rw [if_pos (by omega)] at hq | rw [if_neg (by omega)] at hq)) <;> exact hq
def S_X7_as : MSpec := fun a σ Q => match a with
  | [.inr (.inl 0), .inl c, .inl q] => R32 c ∧ R32 q ∧ okV (vC σ 7) ∧ (if ¬ (0 ≤ c ∧ c < σ 7 1) ∨ ¬ (0 ≤ q ∧ q ≤ 5) then Q (some (.inl (-1000001))) σ else if q = 0 ∨ q = vC σ 7 1 c.toNat ∨ (q = 1 ∧ (vC σ 7 1 c.toNat = 2 ∨ vC σ 7 1 c.toNat = 3)) ∨ (q = 4 ∧ vC σ 7 1 c.toNat = 5) then Q (some (.inl c)) (hset σ 0 14 0) else Q (some (.inl (-1000013))) (hset σ 0 14 3))
  | _ => False
theorem rc_X7_as : ∀ a σ Q, S_X7_as a σ Q → ∃ (p : Nat) (r : List AV), a = .inr (.inl p) :: r ∧ p < 76 ∧ (SH p).1 = 4 ∧ (SH p).2.1 = 6 := by
  intro a σ Q h
  unfold S_X7_as at h
  split at h
  · exact ⟨0, _, rfl, by decide, rfl, rfl⟩
  · exact h.elim
def mT_X7_as (i : Nat) : Option (Nat × Bool × MSpec) := match i with
  | 86 => some (2, true, S_X7_found)
  | 94 => some (2, true, S_X7_fine)
  | 161 => some (2, true, S_X7_isChord)
  | 285 => some (2, false, S_X1_isOne)
  | _ => none
theorem mT_X7_as_ok {l : Launch} {n : Nat} (hn : 1 ≤ n) : ∀ i e, mT_X7_as i = some e → mV l (rmOf n) RX7 i e := by
  intro i e h
  unfold mT_X7_as at h
  split at h
  · cases h; exact mvI (lv := 0) (ci := 6) (T := TX7) (N := 15) mw_X7_found rfl (by omega) (by decide) (by decide +kernel) (gtm 278 (by decide +kernel) (by decide +kernel)) rc_X7_found ok_X7_found
  · cases h; exact mvI (lv := 0) (ci := 6) (T := TX7) (N := 15) mw_X7_fine rfl (by omega) (by decide) (by decide +kernel) (gtm 287 (by decide +kernel) (by decide +kernel)) rc_X7_fine ok_X7_fine
  · cases h; exact mvI (lv := 0) (ci := 6) (T := TX7) (N := 15) mw_X7_isChord rfl (by omega) (by decide) (by decide +kernel) (gtm 457 (by decide +kernel) (by decide +kernel)) rc_X7_isChord ok_X7_isChord
  · cases h; exact mvS (lv := 0) mw_X1_isOne (by omega) (by decide) (by decide +kernel) (Or.inl (gtm 690 (by decide +kernel) (by decide +kernel))) ok_X1_isOne
  · cases h
set_option maxRecDepth 100000 in
set_option maxHeartbeats 4000000 in
theorem ok_X7_as : ∀ l n, 1 ≤ n → ∀ a σ Q, S_X7_as a σ Q → AM l n yX7_as cX7_as 3 (some .int) a σ Q := by
  intro l n hn a σ Q hS
  unfold S_X7_as at hS
  split at hS
  rotate_left
  · exact hS.elim
  rename_i c q
  obtain ⟨⟨c1, c2⟩, ⟨w1, w2⟩, hV, hq⟩ := hS
  refine am_ofF 1 cpX7 mT_X7_as (plainFor_of_name (by decide +kernel)) (rfl) (Nat.le_of_ble_eq_true rfl) (cpX7_ok) (mT_X7_as_ok hn) (fun K hK => ?_)
  refine hK (fun _ => false) 200 _ _ _ _ ?_
  simp only [↓wp, ↓stp, ilen, lnth, st1, st2, nolong, nohead, rnth, ↓gfX, ↓pfX, gfV, pfV, cpF, cpP, cndZ, ↓tgo, ↓tsw, ↓lsw, ↓ldI, ↓ldA, ↓ldL, ↓stI, ↓stA, ↓stL, ↓bin, ↓binD, ↓binL, ↓binDL, ↓una, ↓acV, ↓acK, ↓acpy, ↓inv, entL, nones, List.length_cons, List.length_nil, List.take, List.drop, List.reverse_cons, List.reverse_nil, List.nil_append, List.cons_append, Option.toList_some, Option.toList_none, Nat.reduceAdd, Nat.reduceSub, Nat.reduceLT, Nat.reduceEqDiff, Fin.isValue, aTL, aSZ, Int.toNat_natCast, hset_same, hset_o, hset_s, hset_row, ne_eq, Nat.reduceBEq, beq_self_eq_true, Fin.val_zero, Fin.val_one, fin0, fin1, fin2, fin3, Nat.le_refl, Nat.reduceLeDiff, Nat.zero_le, Int.reduceAdd, Int.reduceNeg, Int.reduceLE, Int.reduceLT, Int.reduceToNat, Int.reduceMul, Int.cast_ofNat_Int, Nat.reduceMod, ↓reduceIte, if_true, if_false, and_true, true_and, or_true, true_or, false_or, or_false, and_self, not_true_eq_false, not_false_eq_true, Bool.false_eq_true, reduceCtorEq, false_implies, true_implies, implies_true, and_false, false_and, dX7_as_0, dX7_as_1, dX7_as_2, dX7_as_5, dX7_as_8, dX7_as_9, dX7_as_12, dX7_as_13, dX7_as_14, dX7_as_17, dX7_as_19, dX7_as_20, dX7_as_21, dX7_as_24, dX7_as_27, dX7_as_28, dX7_as_29, dX7_as_30, dX7_as_33, dX7_as_36, dX7_as_37, dX7_as_38, dX7_as_41, dX7_as_44, dX7_as_45, dX7_as_46, dX7_as_49, cpX7, mT_X7_as, SHl_0, SHl_1, SHl_2, SHl_3, SHl_4, SHl_5, SHl_6, SHl_7, SHl_8, SHl_9, SHl_10, SHl_11, SHl_12, SHl_13, SHl_14, SHl_15, SHl_16, SHl_17, SHl_18, SHl_19, SHl_20, SHl_21, SHl_22, SHl_23, SHl_24, SHl_25, SHl_26, SHl_27, SHl_28, SHl_29, SHl_30, SHl_31, SHl_32, SHl_33, SHl_34, SHl_35, SHl_36, SHl_37, SHl_38, SHl_39, SHl_40, SHl_41, SHl_42, SHl_43, SHl_44, SHl_45, SHl_46, SHl_47, SHl_48, SHl_49, SHl_50, SHl_51, SHl_52, SHl_53, SHl_54, SHl_55, SHl_56, SHl_57, S_X1_isOne, S_X7_fine, S_X7_found, S_X7_isChord]
  obtain ⟨v0, v1, v2⟩ := vC_0 σ 7
  have o2 := hV.2.1
  by_cases hc : 0 ≤ c ∧ c < σ 7 1
  · obtain ⟨e1, e2, e3, e4, e5⟩ := vC_c (σ := σ) (p := 7) (c := c.toNat) (by omega)
    have hk := (hV.2.2.2.2.1 c.toNat (by omega)).1
    simp only [Nat.reduceAdd] at e1
    rw [← e1]
    generalize vC σ 7 1 c.toNat = kd at *
    (repeat' (first | apply And.intro | intro _)) <;> first | omega | (repeat (first | rw [if_pos (by omega)] at hq | rw [if_neg (by omega)] at hq)) <;> exact hq
  · (repeat' (first | apply And.intro | intro _)) <;> first | omega | (rw [if_pos (by omega)] at hq; exact hq)
def S_X7_fits : MSpec := fun a σ Q => match a with
  | [.inr (.inl 0), .inl c, .inl r, .inl k, .inl w] => R32 c ∧ R32 r ∧ R32 k ∧ R32 w ∧ xPre σ ∧ iRow σ ∧ (if ¬ (0 ≤ c ∧ c < σ 7 1) ∨ ¬ (0 ≤ r ∧ r < 8) ∨ ¬ (1 ≤ k ∧ k ≤ σ 7 2) ∨ ¬ (0 ≤ w ∧ w ≤ 2) then Q (some (.inl (-1000001))) σ else if σ 4 r.toNat = -1 then Q (some (.inl (-1000011))) (hset σ 0 14 1) else if ¬ (k ≤ σ 4 r.toNat) then Q (some (.inl (-1000012))) (hset σ 0 14 2) else ∀ τ, xS σ τ → Q (some (.inl (ftZ (vC σ 7) c.toNat w (fun j => σ 2 ((40 * r).toNat + j)) k.toNat))) (hset τ 0 14 0))
  | _ => False
theorem rc_X7_fits : ∀ a σ Q, S_X7_fits a σ Q → ∃ (p : Nat) (r : List AV), a = .inr (.inl p) :: r ∧ p < 76 ∧ (SH p).1 = 4 ∧ (SH p).2.1 = 6 := by
  intro a σ Q h
  unfold S_X7_fits at h
  split at h
  · exact ⟨0, _, rfl, by decide, rfl, rfl⟩
  · exact h.elim
def mT_X7_fits (i : Nat) : Option (Nat × Bool × MSpec) := match i with
  | 81 => some (1, false, S_X5_isRow)
  | 86 => some (2, true, S_X7_found)
  | 94 => some (2, true, S_X7_fine)
  | 97 => some (2, true, S_X5_isMissing)
  | 100 => some (4, true, S_X5_holds)
  | 161 => some (2, true, S_X7_isChord)
  | 266 => some (3, true, S_X7_fittingSignatures)
  | 269 => some (4, true, S_X7_fittingKinds)
  | 272 => some (4, true, S_X7_fittingKeys)
  | _ => none
theorem mT_X7_fits_ok {l : Launch} {n : Nat} (hn : 6 ≤ n) : ∀ i e, mT_X7_fits i = some e → mV l (rmOf n) RX7 i e := by
  intro i e h
  unfold mT_X7_fits at h
  split at h
  · cases h; exact mvS (lv := 0) mw_X5_isRow (by omega) (by decide) (by decide +kernel) (Or.inl (gtm 274 (by decide +kernel) (by decide +kernel))) ok_X5_isRow
  · cases h; exact mvI (lv := 0) (ci := 6) (T := TX7) (N := 15) mw_X7_found rfl (by omega) (by decide) (by decide +kernel) (gtm 278 (by decide +kernel) (by decide +kernel)) rc_X7_found ok_X7_found
  · cases h; exact mvI (lv := 0) (ci := 6) (T := TX7) (N := 15) mw_X7_fine rfl (by omega) (by decide) (by decide +kernel) (gtm 287 (by decide +kernel) (by decide +kernel)) rc_X7_fine ok_X7_fine
  · cases h; exact mvI (lv := 0) (ci := 4) (T := TX5) (N := 3) mw_X5_isMissing rfl (by omega) (by decide) (by decide +kernel) (gtm 295 (by decide +kernel) (by decide +kernel)) rc_X5_isMissing ok_X5_isMissing
  · cases h; exact mvI (lv := 0) (ci := 4) (T := TX5) (N := 3) mw_X5_holds rfl (by omega) (by decide) (by decide +kernel) (gtm 299 (by decide +kernel) (by decide +kernel)) rc_X5_holds ok_X5_holds
  · cases h; exact mvI (lv := 0) (ci := 6) (T := TX7) (N := 15) mw_X7_isChord rfl (by omega) (by decide) (by decide +kernel) (gtm 457 (by decide +kernel) (by decide +kernel)) rc_X7_isChord ok_X7_isChord
  · cases h; exact mvI (lv := 5) (ci := 6) (T := TX7) (N := 15) mw_X7_fittingSignatures rfl (by omega) (by decide) (by decide +kernel) (gtm 645 (by decide +kernel) (by decide +kernel)) rc_X7_fittingSignatures ok_X7_fittingSignatures
  · cases h; exact mvI (lv := 5) (ci := 6) (T := TX7) (N := 15) mw_X7_fittingKinds rfl (by omega) (by decide) (by decide +kernel) (gtm 653 (by decide +kernel) (by decide +kernel)) rc_X7_fittingKinds ok_X7_fittingKinds
  · cases h; exact mvI (lv := 5) (ci := 6) (T := TX7) (N := 15) mw_X7_fittingKeys rfl (by omega) (by decide) (by decide +kernel) (gtm 657 (by decide +kernel) (by decide +kernel)) rc_X7_fittingKeys ok_X7_fittingKeys
  · cases h
set_option maxRecDepth 100000 in
set_option maxHeartbeats 4000000 in
theorem ok_X7_fits : ∀ l n, 6 ≤ n → ∀ a σ Q, S_X7_fits a σ Q → AM l n yX7_fits cX7_fits 5 (some .int) a σ Q := by
  intro l n hn a σ Q hS
  unfold S_X7_fits at hS
  split at hS
  rotate_left
  · exact hS.elim
  rename_i c r k w
  obtain ⟨⟨c1, c2⟩, ⟨r1, r2⟩, ⟨k1, k2⟩, ⟨w1, w2⟩, hp, hI, hq⟩ := hS
  refine am_ofF 1 cpX7 mT_X7_fits (plainFor_of_name (by decide +kernel)) (rfl) (Nat.le_of_ble_eq_true rfl) (cpX7_ok) (mT_X7_fits_ok hn) (fun K hK => ?_)
  refine hK (fun _ => false) 200 _ _ _ _ ?_
  simp only [↓wp, ↓stp, ilen, lnth, st1, st2, nolong, nohead, rnth, ↓gfX, ↓pfX, gfV, pfV, cpF, cpP, cndZ, ↓tgo, ↓tsw, ↓lsw, ↓ldI, ↓ldA, ↓ldL, ↓stI, ↓stA, ↓stL, ↓bin, ↓binD, ↓binL, ↓binDL, ↓una, ↓acV, ↓acK, ↓acpy, ↓inv, entL, nones, List.length_cons, List.length_nil, List.take, List.drop, List.reverse_cons, List.reverse_nil, List.nil_append, List.cons_append, Option.toList_some, Option.toList_none, Nat.reduceAdd, Nat.reduceSub, Nat.reduceLT, Nat.reduceEqDiff, Fin.isValue, aTL, aSZ, Int.toNat_natCast, hset_same, hset_o, hset_s, hset_row, ne_eq, Nat.reduceBEq, beq_self_eq_true, Fin.val_zero, Fin.val_one, fin0, fin1, fin2, fin3, Nat.le_refl, Nat.reduceLeDiff, Nat.zero_le, Int.reduceAdd, Int.reduceNeg, Int.reduceLE, Int.reduceLT, Int.reduceToNat, Int.reduceMul, Int.cast_ofNat_Int, Nat.reduceMod, ↓reduceIte, if_true, if_false, and_true, true_and, or_true, true_or, false_or, or_false, and_self, not_true_eq_false, not_false_eq_true, Bool.false_eq_true, reduceCtorEq, false_implies, true_implies, implies_true, and_false, false_and, dX7_fits_0, dX7_fits_1, dX7_fits_2, dX7_fits_5, dX7_fits_8, dX7_fits_9, dX7_fits_12, dX7_fits_15, dX7_fits_16, dX7_fits_17, dX7_fits_20, dX7_fits_21, dX7_fits_22, dX7_fits_25, dX7_fits_28, dX7_fits_31, dX7_fits_33, dX7_fits_36, dX7_fits_38, dX7_fits_39, dX7_fits_42, dX7_fits_44, dX7_fits_45, dX7_fits_46, dX7_fits_49, dX7_fits_50, dX7_fits_53, dX7_fits_56, dX7_fits_57, dX7_fits_58, dX7_fits_61, dX7_fits_62, dX7_fits_63, dX7_fits_66, dX7_fits_67, dX7_fits_68, dX7_fits_69, dX7_fits_72, dX7_fits_75, dX7_fits_76, dX7_fits_77, dX7_fits_80, dX7_fits_81, dX7_fits_83, dX7_fits_108, dX7_fits_109, dX7_fits_110, dX7_fits_111, dX7_fits_112, dX7_fits_115, dX7_fits_118, dX7_fits_119, dX7_fits_120, dX7_fits_121, dX7_fits_122, dX7_fits_123, dX7_fits_124, dX7_fits_127, dX7_fits_130, dX7_fits_131, dX7_fits_132, dX7_fits_133, dX7_fits_134, dX7_fits_137, dX7_fits_140, dX7_fits_141, dX7_fits_142, dX7_fits_143, dX7_fits_144, dX7_fits_147, dX7_fits_150, cpX7, mT_X7_fits, SHl_0, SHl_1, SHl_2, SHl_3, SHl_4, SHl_5, SHl_6, SHl_7, SHl_8, SHl_9, SHl_10, SHl_11, SHl_12, SHl_13, SHl_14, SHl_15, SHl_16, SHl_17, SHl_18, SHl_19, SHl_20, SHl_21, SHl_22, SHl_23, SHl_24, SHl_25, SHl_26, SHl_27, SHl_28, SHl_29, SHl_30, SHl_31, SHl_32, SHl_33, SHl_34, SHl_35, SHl_36, SHl_37, SHl_38, SHl_39, SHl_40, SHl_41, SHl_42, SHl_43, SHl_44, SHl_45, SHl_46, SHl_47, SHl_48, SHl_49, SHl_50, SHl_51, SHl_52, SHl_53, SHl_54, SHl_55, SHl_56, SHl_57, S_X5_holds, S_X5_isMissing, S_X5_isRow, S_X7_fine, S_X7_fittingKeys, S_X7_fittingKinds, S_X7_fittingSignatures, S_X7_found, S_X7_isChord]
  obtain ⟨v0, v1, v2⟩ := vC_0 σ 7
  obtain ⟨hV, hco, hc⟩ := id hp
  obtain ⟨o1, o2, o3, o4, oc, on⟩ := id hV
  have hJ := hI.2
  by_cases hb : ¬ (0 ≤ c ∧ c < σ 7 1) ∨ ¬ (0 ≤ r ∧ r < 8) ∨ ¬ (1 ≤ k ∧ k ≤ σ 7 2) ∨ ¬ (0 ≤ w ∧ w ≤ 2)
  · rw [if_pos hb] at hq
    (repeat' (first | exact hq | apply And.intro | intro _)) <;> omega
  · rw [if_neg hb] at hq
    have hr := hI.1 r.toNat (by omega)
    have occ := oc c.toNat (by omega)
    obtain ⟨e1, e2, e3, e4, e5⟩ := vC_c (σ := σ) (p := 7) (c := c.toNat) (by omega)
    simp only [Nat.reduceAdd] at e4
    by_cases hm : σ 4 r.toNat = -1
    · rw [if_pos hm] at hq
      (repeat' (first | exact hq | apply And.intro | intro _)) <;> omega
    · rw [if_neg hm] at hq
      by_cases hs : ¬ (k ≤ σ 4 r.toNat)
      · rw [if_pos hs] at hq
        (repeat' (first | exact hq | apply And.intro | intro _)) <;> omega
      · rw [if_neg hs] at hq
        have f0 : w = 0 → ∀ τ, xS σ τ → Q (some (.inl (orF (fun v => fitF (hset (vC σ 7) 0 0 (v : Int)) (fun j => σ 2 ((40 * r).toNat + j)) k.toNat) 0 15))) (hset τ 0 14 0) := fun h τ hτ => by
          have := hq τ hτ
          subst h
          exact this
        have f1 : w = 1 → ∀ τ, xS σ τ → Q (some (.inl (orF (fun v => fitF (hset (vC σ 7) 1 c.toNat (v : Int)) (fun j => σ 2 ((40 * r).toNat + j)) k.toNat) 1 5))) (hset τ 0 14 0) := fun h τ hτ => by
          have := hq τ hτ
          subst h
          exact this
        have f2 : w = 2 → ∀ τ, xS σ τ → Q (some (.inl (orF (fun v => fitF (hset (vC σ 7) 6 (σ 11 c.toNat).toNat (v : Int)) (fun j => σ 2 ((40 * r).toNat + j)) k.toNat) 0 12))) (hset τ 0 14 0) := fun h τ hτ => by
          have := hq τ hτ
          subst h
          rw [← e4]
          exact this
        (repeat' (first | exact hp | exact hJ | exact f0 (by omega) _ ‹_› | exact f1 (by omega) _ ‹_› | exact f2 (by omega) _ ‹_› | apply And.intro | intro _)) <;> first | omega | rfl | decide
