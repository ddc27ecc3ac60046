/-! ===== the class: acts, images ===== -/
def chgd (τ : HP) : HP := hset (hset τ 0 9 1) 0 10 1
def S_X7_acted : MSpec := fun a σ Q => match a with
  | [.inr (.inl 0), .inl s, .inl w, .inl b] => (0 ≤ σ 38 0 ∧ σ 38 0 ≤ 16) ∧ ∀ τ, kpOk σ τ s w b → Q none (chgd τ)
  | _ => False
theorem rc_X7_acted : ∀ a σ Q, S_X7_acted a σ Q → ∃ (p : Nat) (r : List AV), a = .inr (.inl p) :: r ∧ p < 76 ∧ (SH p).1 = 4 ∧ (SH p).2.1 = 6 := by
  intro a σ Q h
  unfold S_X7_acted at h
  split at h
  · exact ⟨0, _, rfl, by decide, rfl, rfl⟩
  · exact h.elim
def mT_X7_acted (i : Nat) : Option (Nat × Bool × MSpec) := match i with
  | 141 => some (1, true, S_X7_changed)
  | 303 => some (4, true, S_X0_keep)
  | _ => none
theorem mT_X7_acted_ok {l : Launch} {n : Nat} (hn : 2 ≤ n) : ∀ i e, mT_X7_acted i = some e → mV l (rmOf n) RX7 i e := by
  intro i e h
  unfold mT_X7_acted at h
  split at h
  · cases h; exact mvI (lv := 0) (ci := 6) (T := TX7) (N := 15) mw_X7_changed rfl (by omega) (by decide) (by decide +kernel) (gtm 422 (by decide +kernel) (by decide +kernel)) rc_X7_changed ok_X7_changed
  · cases h; exact mvI (lv := 1) (ci := 0) (T := TX0) (N := 4) mw_X0_keep rfl (by omega) (by decide) (by decide +kernel) (gtm 444 (by decide +kernel) (by decide +kernel)) rc_X0_keep ok_X0_keep
  · cases h
set_option maxRecDepth 100000 in
set_option maxHeartbeats 4000000 in
theorem ok_X7_acted : ∀ l n, 2 ≤ n → ∀ a σ Q, S_X7_acted a σ Q → AM l n yX7_acted cX7_acted 4 none a σ Q := by
  intro l n hn a σ Q hS
  unfold S_X7_acted at hS
  split at hS
  rotate_left
  · exact hS.elim
  rename_i s w b
  obtain ⟨h1, hq⟩ := hS
  refine am_ofF 0 cpX7 mT_X7_acted (plainFor_of_name (by decide +kernel)) (rfl) (Nat.le_of_ble_eq_true rfl) (cpX7_ok) (mT_X7_acted_ok hn) (fun K hK => ?_)
  refine hK (fun _ => false) 200 _ _ _ _ ?_
  simp only [↓wp, ↓stp, ilen, lnth, st1, st2, nolong, nohead, rnth, ↓gfX, ↓pfX, gfV, pfV, cpF, cpP, cndZ, ↓tgo, ↓tsw, ↓lsw, ↓ldI, ↓ldA, ↓ldL, ↓stI, ↓stA, ↓stL, ↓bin, ↓binD, ↓binL, ↓binDL, ↓una, ↓acV, ↓acK, ↓acpy, ↓inv, entL, nones, List.length_cons, List.length_nil, List.take, List.drop, List.reverse_cons, List.reverse_nil, List.nil_append, List.cons_append, Option.toList_some, Option.toList_none, Nat.reduceAdd, Nat.reduceSub, Nat.reduceLT, Nat.reduceEqDiff, Fin.isValue, aTL, aSZ, Int.toNat_natCast, hset_same, hset_o, hset_s, hset_row, ne_eq, Nat.reduceBEq, beq_self_eq_true, Fin.val_zero, Fin.val_one, fin0, fin1, fin2, fin3, Nat.le_refl, Nat.reduceLeDiff, Nat.zero_le, Int.reduceAdd, Int.reduceNeg, Int.reduceLE, Int.reduceLT, Int.reduceToNat, Int.reduceMul, Int.cast_ofNat_Int, Nat.reduceMod, ↓reduceIte, if_true, if_false, and_true, true_and, or_true, true_or, false_or, or_false, and_self, not_true_eq_false, not_false_eq_true, Bool.false_eq_true, reduceCtorEq, false_implies, true_implies, implies_true, and_false, false_and, dX7_acted_0, dX7_acted_1, dX7_acted_4, dX7_acted_5, dX7_acted_6, dX7_acted_7, dX7_acted_10, dX7_acted_11, dX7_acted_14, cpX7, mT_X7_acted, SHl_0, SHl_1, SHl_2, SHl_3, SHl_4, SHl_5, SHl_6, SHl_7, SHl_8, SHl_9, SHl_10, SHl_11, SHl_12, SHl_13, SHl_14, SHl_15, SHl_16, SHl_17, SHl_18, SHl_19, SHl_20, SHl_21, SHl_22, SHl_23, SHl_24, SHl_25, SHl_26, SHl_27, SHl_28, SHl_29, SHl_30, SHl_31, SHl_32, SHl_33, SHl_34, SHl_35, SHl_36, SHl_37, SHl_38, SHl_39, SHl_40, SHl_41, SHl_42, SHl_43, SHl_44, SHl_45, SHl_46, SHl_47, SHl_48, SHl_49, SHl_50, SHl_51, SHl_52, SHl_53, SHl_54, SHl_55, SHl_56, SHl_57, S_X0_keep, S_X7_changed]
  exact ⟨h1, fun τ hτ => hq τ hτ⟩
def S_X7_key : MSpec := fun a σ Q => match a with
  | [.inr (.inl 0), .inl k, .inl v] => R32 k ∧ R32 v ∧ okV (vC σ 7) ∧ (0 ≤ σ 38 0 ∧ σ 38 0 ≤ 16) ∧ (if ¬ (0 ≤ k ∧ k < σ 7 2) ∨ ¬ (0 ≤ v ∧ v < 12) then Q (some (.inl (-1000001))) σ else if σ 12 k.toNat = v then Q (some (.inl (-1000002))) σ else ∀ τ, kpOk (hset σ 12 k.toNat v) τ 0 k (σ 12 k.toNat) → Q (some (.inl (σ 12 k.toNat))) (chgd τ))
  | _ => False
theorem rc_X7_key : ∀ a σ Q, S_X7_key a σ Q → ∃ (p : Nat) (r : List AV), a = .inr (.inl p) :: r ∧ p < 76 ∧ (SH p).1 = 4 ∧ (SH p).2.1 = 6 := by
  intro a σ Q h
  unfold S_X7_key at h
  split at h
  · exact ⟨0, _, rfl, by decide, rfl, rfl⟩
  · exact h.elim
def mT_X7_key (i : Nat) : Option (Nat × Bool × MSpec) := match i with
  | 147 => some (2, true, S_X7_isNote)
  | 150 => some (1, false, S_X7_isKey)
  | 158 => some (4, true, S_X7_acted)
  | _ => none
theorem mT_X7_key_ok {l : Launch} {n : Nat} (hn : 3 ≤ n) : ∀ i e, mT_X7_key i = some e → mV l (rmOf n) RX7 i e := by
  intro i e h
  unfold mT_X7_key at h
  split at h
  · cases h; exact mvI (lv := 0) (ci := 6) (T := TX7) (N := 15) mw_X7_isNote rfl (by omega) (by decide) (by decide +kernel) (gtm 434 (by decide +kernel) (by decide +kernel)) rc_X7_isNote ok_X7_isNote
  · cases h; exact mvS (lv := 0) mw_X7_isKey (by omega) (by decide) (by decide +kernel) (Or.inl (gtm 438 (by decide +kernel) (by decide +kernel))) ok_X7_isKey
  · cases h; exact mvI (lv := 2) (ci := 6) (T := TX7) (N := 15) mw_X7_acted rfl (by omega) (by decide) (by decide +kernel) (gtm 440 (by decide +kernel) (by decide +kernel)) rc_X7_acted ok_X7_acted
  · cases h
set_option maxRecDepth 100000 in
set_option maxHeartbeats 4000000 in
theorem ok_X7_key : ∀ l n, 3 ≤ n → ∀ a σ Q, S_X7_key a σ Q → AM l n yX7_key cX7_key 4 (some .int) a σ Q := by
  intro l n hn a σ Q hS
  unfold S_X7_key at hS
  split at hS
  rotate_left
  · exact hS.elim
  rename_i k v
  obtain ⟨⟨k1, k2⟩, ⟨v1, v2⟩, hV, hA, hq⟩ := hS
  refine am_ofF 1 cpX7 mT_X7_key (plainFor_of_name (by decide +kernel)) (rfl) (Nat.le_of_ble_eq_true rfl) (cpX7_ok) (mT_X7_key_ok hn) (fun K hK => ?_)
  refine hK (fun _ => false) 200 _ _ _ _ ?_
  simp only [↓wp, ↓stp, ilen, lnth, st1, st2, nolong, nohead, rnth, ↓gfX, ↓pfX, gfV, pfV, cpF, cpP, cndZ, ↓tgo, ↓tsw, ↓lsw, ↓ldI, ↓ldA, ↓ldL, ↓stI, ↓stA, ↓stL, ↓bin, ↓binD, ↓binL, ↓binDL, ↓una, ↓acV, ↓acK, ↓acpy, ↓inv, entL, nones, List.length_cons, List.length_nil, List.take, List.drop, List.reverse_cons, List.reverse_nil, List.nil_append, List.cons_append, Option.toList_some, Option.toList_none, Nat.reduceAdd, Nat.reduceSub, Nat.reduceLT, Nat.reduceEqDiff, Fin.isValue, aTL, aSZ, Int.toNat_natCast, hset_same, hset_o, hset_s, hset_row, ne_eq, Nat.reduceBEq, beq_self_eq_true, Fin.val_zero, Fin.val_one, fin0, fin1, fin2, fin3, Nat.le_refl, Nat.reduceLeDiff, Nat.zero_le, Int.reduceAdd, Int.reduceNeg, Int.reduceLE, Int.reduceLT, Int.reduceToNat, Int.reduceMul, Int.cast_ofNat_Int, Nat.reduceMod, ↓reduceIte, if_true, if_false, and_true, true_and, or_true, true_or, false_or, or_false, and_self, not_true_eq_false, not_false_eq_true, Bool.false_eq_true, reduceCtorEq, false_implies, true_implies, implies_true, and_false, false_and, dX7_key_0, dX7_key_1, dX7_key_2, dX7_key_5, dX7_key_8, dX7_key_9, dX7_key_12, dX7_key_15, dX7_key_17, dX7_key_18, dX7_key_19, dX7_key_22, dX7_key_25, dX7_key_26, dX7_key_27, dX7_key_28, dX7_key_29, dX7_key_30, dX7_key_33, dX7_key_35, dX7_key_36, dX7_key_37, dX7_key_40, dX7_key_43, dX7_key_44, dX7_key_45, dX7_key_46, dX7_key_47, dX7_key_48, dX7_key_49, dX7_key_50, dX7_key_53, dX7_key_54, cpX7, mT_X7_key, SHl_0, SHl_1, SHl_2, SHl_3, SHl_4, SHl_5, SHl_6, SHl_7, SHl_8, SHl_9, SHl_10, SHl_11, SHl_12, SHl_13, SHl_14, SHl_15, SHl_16, SHl_17, SHl_18, SHl_19, SHl_20, SHl_21, SHl_22, SHl_23, SHl_24, SHl_25, SHl_26, SHl_27, SHl_28, SHl_29, SHl_30, SHl_31, SHl_32, SHl_33, SHl_34, SHl_35, SHl_36, SHl_37, SHl_38, SHl_39, SHl_40, SHl_41, SHl_42, SHl_43, SHl_44, SHl_45, SHl_46, SHl_47, SHl_48, SHl_49, SHl_50, SHl_51, SHl_52, SHl_53, SHl_54, SHl_55, SHl_56, SHl_57, S_X7_acted, S_X7_isKey, S_X7_isNote]
  obtain ⟨w0, w1, w2⟩ := vC_0 σ 7
  obtain ⟨o1, o2, o3, -, oc, on⟩ := id hV
  by_cases hk : 0 ≤ k ∧ k < σ 7 2
  · have hn := on k.toNat (by omega)
    have e6 : vC σ 7 6 k.toNat = σ 12 k.toNat := vC_n (by omega)
    rw [e6] at hn
    (repeat' (first | apply And.intro | intro _)) <;> first | omega | (repeat (first | rw [if_pos (by omega)] at hq | rw [if_neg (by omega)] at hq)) <;> first | exact hq | exact hq _ ‹_›
  · (repeat' (first | apply And.intro | intro _)) <;> first | omega | (rw [if_pos (by omega)] at hq; exact hq)
def S_X7_become : MSpec := fun a σ Q => match a with
  | [.inr (.inl 0), .inl k, .inl v] => R32 k ∧ R32 v ∧ okV (vC σ 7) ∧ (0 ≤ σ 38 0 ∧ σ 38 0 ≤ 16) ∧ (if ¬ (0 ≤ k ∧ k < σ 7 1) ∨ ¬ (1 ≤ v ∧ v ≤ 5) then Q (some (.inl (-1000001))) σ else if σ 8 k.toNat = v then Q (some (.inl (-1000002))) σ else ∀ τ, kpOk (hset σ 8 k.toNat v) τ 1 k (σ 8 k.toNat) → Q (some (.inl (σ 8 k.toNat))) (chgd τ))
  | _ => False
theorem rc_X7_become : ∀ a σ Q, S_X7_become a σ Q → ∃ (p : Nat) (r : List AV), a = .inr (.inl p) :: r ∧ p < 76 ∧ (SH p).1 = 4 ∧ (SH p).2.1 = 6 := by
  intro a σ Q h
  unfold S_X7_become at h
  split at h
  · exact ⟨0, _, rfl, by decide, rfl, rfl⟩
  · exact h.elim
def mT_X7_become (i : Nat) : Option (Nat × Bool × MSpec) := match i with
  | 158 => some (4, true, S_X7_acted)
  | 161 => some (2, true, S_X7_isChord)
  | _ => none
theorem mT_X7_become_ok {l : Launch} {n : Nat} (hn : 3 ≤ n) : ∀ i e, mT_X7_become i = some e → mV l (rmOf n) RX7 i e := by
  intro i e h
  unfold mT_X7_become at h
  split at h
  · cases h; exact mvI (lv := 2) (ci := 6) (T := TX7) (N := 15) mw_X7_acted rfl (by omega) (by decide) (by decide +kernel) (gtm 440 (by decide +kernel) (by decide +kernel)) rc_X7_acted ok_X7_acted
  · cases h; exact mvI (lv := 0) (ci := 6) (T := TX7) (N := 15) mw_X7_isChord rfl (by omega) (by decide) (by decide +kernel) (gtm 457 (by decide +kernel) (by decide +kernel)) rc_X7_isChord ok_X7_isChord
  · cases h
set_option maxRecDepth 100000 in
set_option maxHeartbeats 4000000 in
theorem ok_X7_become : ∀ l n, 3 ≤ n → ∀ a σ Q, S_X7_become a σ Q → AM l n yX7_become cX7_become 4 (some .int) a σ Q := by
  intro l n hn a σ Q hS
  unfold S_X7_become at hS
  split at hS
  rotate_left
  · exact hS.elim
  rename_i k v
  obtain ⟨⟨k1, k2⟩, ⟨v1, v2⟩, hV, hA, hq⟩ := hS
  refine am_ofF 1 cpX7 mT_X7_become (plainFor_of_name (by decide +kernel)) (rfl) (Nat.le_of_ble_eq_true rfl) (cpX7_ok) (mT_X7_become_ok hn) (fun K hK => ?_)
  refine hK (fun _ => false) 200 _ _ _ _ ?_
  simp only [↓wp, ↓stp, ilen, lnth, st1, st2, nolong, nohead, rnth, ↓gfX, ↓pfX, gfV, pfV, cpF, cpP, cndZ, ↓tgo, ↓tsw, ↓lsw, ↓ldI, ↓ldA, ↓ldL, ↓stI, ↓stA, ↓stL, ↓bin, ↓binD, ↓binL, ↓binDL, ↓una, ↓acV, ↓acK, ↓acpy, ↓inv, entL, nones, List.length_cons, List.length_nil, List.take, List.drop, List.reverse_cons, List.reverse_nil, List.nil_append, List.cons_append, Option.toList_some, Option.toList_none, Nat.reduceAdd, Nat.reduceSub, Nat.reduceLT, Nat.reduceEqDiff, Fin.isValue, aTL, aSZ, Int.toNat_natCast, hset_same, hset_o, hset_s, hset_row, ne_eq, Nat.reduceBEq, beq_self_eq_true, Fin.val_zero, Fin.val_one, fin0, fin1, fin2, fin3, Nat.le_refl, Nat.reduceLeDiff, Nat.zero_le, Int.reduceAdd, Int.reduceNeg, Int.reduceLE, Int.reduceLT, Int.reduceToNat, Int.reduceMul, Int.cast_ofNat_Int, Nat.reduceMod, ↓reduceIte, if_true, if_false, and_true, true_and, or_true, true_or, false_or, or_false, and_self, not_true_eq_false, not_false_eq_true, Bool.false_eq_true, reduceCtorEq, false_implies, true_implies, implies_true, and_false, false_and, dX7_become_0, dX7_become_1, dX7_become_2, dX7_become_5, dX7_become_8, dX7_become_9, dX7_become_10, dX7_become_13, dX7_become_14, dX7_become_15, dX7_become_18, dX7_become_20, dX7_become_21, dX7_become_22, dX7_become_25, dX7_become_28, dX7_become_29, dX7_become_30, dX7_become_31, dX7_become_32, dX7_become_33, dX7_become_36, dX7_become_38, dX7_become_39, dX7_become_40, dX7_become_43, dX7_become_46, dX7_become_47, dX7_become_48, dX7_become_49, dX7_become_50, dX7_become_51, dX7_become_52, dX7_become_53, dX7_become_56, dX7_become_57, cpX7, mT_X7_become, SHl_0, SHl_1, SHl_2, SHl_3, SHl_4, SHl_5, SHl_6, SHl_7, SHl_8, SHl_9, SHl_10, SHl_11, SHl_12, SHl_13, SHl_14, SHl_15, SHl_16, SHl_17, SHl_18, SHl_19, SHl_20, SHl_21, SHl_22, SHl_23, SHl_24, SHl_25, SHl_26, SHl_27, SHl_28, SHl_29, SHl_30, SHl_31, SHl_32, SHl_33, SHl_34, SHl_35, SHl_36, SHl_37, SHl_38, SHl_39, SHl_40, SHl_41, SHl_42, SHl_43, SHl_44, SHl_45, SHl_46, SHl_47, SHl_48, SHl_49, SHl_50, SHl_51, SHl_52, SHl_53, SHl_54, SHl_55, SHl_56, SHl_57, S_X7_acted, S_X7_isChord]
  obtain ⟨w0, w1, w2⟩ := vC_0 σ 7
  obtain ⟨o1, o2, o3, -, oc, on⟩ := id hV
  by_cases hk : 0 ≤ k ∧ k < σ 7 1
  · have hn := (oc k.toNat (by omega)).1
    have e1 : vC σ 7 1 k.toNat = σ 8 k.toNat := (vC_c (by omega)).1
    rw [e1] at hn
    (repeat' (first | apply And.intro | intro _)) <;> first | omega | (repeat (first | rw [if_pos (by omega)] at hq | rw [if_neg (by omega)] at hq)) <;> first | exact hq | exact hq _ ‹_›
  · (repeat' (first | apply And.intro | intro _)) <;> first | omega | (rw [if_pos (by omega)] at hq; exact hq)
def S_X7_sign : MSpec := fun a σ Q => match a with
  | [.inr (.inl 0), .inl v] => R32 v ∧ okV (vC σ 7) ∧ (0 ≤ σ 38 0 ∧ σ 38 0 ≤ 16) ∧ (if σ 7 1 = 0 then Q (some (.inl (-1000002))) σ else if ¬ (0 ≤ v ∧ v < 15) then Q (some (.inl (-1000001))) σ else if σ 7 0 = v then Q (some (.inl (-1000002))) σ else ∀ τ, kpOk (hset σ 7 0 v) τ 2 0 (σ 7 0) → Q (some (.inl (σ 7 0))) (chgd τ))
  | _ => False
theorem rc_X7_sign : ∀ a σ Q, S_X7_sign a σ Q → ∃ (p : Nat) (r : List AV), a = .inr (.inl p) :: r ∧ p < 76 ∧ (SH p).1 = 4 ∧ (SH p).2.1 = 6 := by
  intro a σ Q h
  unfold S_X7_sign at h
  split at h
  · exact ⟨0, _, rfl, by decide, rfl, rfl⟩
  · exact h.elim
def mT_X7_sign (i : Nat) : Option (Nat × Bool × MSpec) := match i with
  | 158 => some (4, true, S_X7_acted)
  | 167 => some (1, true, S_X7_isNoPiece)
  | 171 => some (1, false, S_X7_isSignature)
  | _ => none
theorem mT_X7_sign_ok {l : Launch} {n : Nat} (hn : 3 ≤ n) : ∀ i e, mT_X7_sign i = some e → mV l (rmOf n) RX7 i e := by
  intro i e h
  unfold mT_X7_sign at h
  split at h
  · cases h; exact mvI (lv := 2) (ci := 6) (T := TX7) (N := 15) mw_X7_acted rfl (by omega) (by decide) (by decide +kernel) (gtm 440 (by decide +kernel) (by decide +kernel)) rc_X7_acted ok_X7_acted
  · cases h; exact mvI (lv := 0) (ci := 6) (T := TX7) (N := 15) mw_X7_isNoPiece rfl (by omega) (by decide) (by decide +kernel) (gtm 465 (by decide +kernel) (by decide +kernel)) rc_X7_isNoPiece ok_X7_isNoPiece
  · cases h; exact mvS (lv := 0) mw_X7_isSignature (by omega) (by decide) (by decide +kernel) (Or.inl (gtm 469 (by decide +kernel) (by decide +kernel))) ok_X7_isSignature
  · cases h
set_option maxRecDepth 100000 in
set_option maxHeartbeats 4000000 in
theorem ok_X7_sign : ∀ l n, 3 ≤ n → ∀ a σ Q, S_X7_sign a σ Q → AM l n yX7_sign cX7_sign 3 (some .int) a σ Q := by
  intro l n hn a σ Q hS
  unfold S_X7_sign at hS
  split at hS
  rotate_left
  · exact hS.elim
  rename_i v
  obtain ⟨⟨v1, v2⟩, hV, hA, hq⟩ := hS
  refine am_ofF 1 cpX7 mT_X7_sign (plainFor_of_name (by decide +kernel)) (rfl) (Nat.le_of_ble_eq_true rfl) (cpX7_ok) (mT_X7_sign_ok hn) (fun K hK => ?_)
  refine hK (fun _ => false) 200 _ _ _ _ ?_
  simp only [↓wp, ↓stp, ilen, lnth, st1, st2, nolong, nohead, rnth, ↓gfX, ↓pfX, gfV, pfV, cpF, cpP, cndZ, ↓tgo, ↓tsw, ↓lsw, ↓ldI, ↓ldA, ↓ldL, ↓stI, ↓stA, ↓stL, ↓bin, ↓binD, ↓binL, ↓binDL, ↓una, ↓acV, ↓acK, ↓acpy, ↓inv, entL, nones, List.length_cons, List.length_nil, List.take, List.drop, List.reverse_cons, List.reverse_nil, List.nil_append, List.cons_append, Option.toList_some, Option.toList_none, Nat.reduceAdd, Nat.reduceSub, Nat.reduceLT, Nat.reduceEqDiff, Fin.isValue, aTL, aSZ, Int.toNat_natCast, hset_same, hset_o, hset_s, hset_row, ne_eq, Nat.reduceBEq, beq_self_eq_true, Fin.val_zero, Fin.val_one, fin0, fin1, fin2, fin3, Nat.le_refl, Nat.reduceLeDiff, Nat.zero_le, Int.reduceAdd, Int.reduceNeg, Int.reduceLE, Int.reduceLT, Int.reduceToNat, Int.reduceMul, Int.cast_ofNat_Int, Nat.reduceMod, ↓reduceIte, if_true, if_false, and_true, true_and, or_true, true_or, false_or, or_false, and_self, not_true_eq_false, not_false_eq_true, Bool.false_eq_true, reduceCtorEq, false_implies, true_implies, implies_true, and_false, false_and, dX7_sign_0, dX7_sign_1, dX7_sign_4, dX7_sign_7, dX7_sign_9, dX7_sign_10, dX7_sign_11, dX7_sign_14, dX7_sign_17, dX7_sign_19, dX7_sign_20, dX7_sign_21, dX7_sign_24, dX7_sign_27, dX7_sign_28, dX7_sign_29, dX7_sign_30, dX7_sign_33, dX7_sign_35, dX7_sign_36, dX7_sign_37, dX7_sign_40, dX7_sign_41, dX7_sign_44, dX7_sign_45, dX7_sign_46, dX7_sign_47, dX7_sign_48, dX7_sign_51, dX7_sign_52, cpX7, mT_X7_sign, SHl_0, SHl_1, SHl_2, SHl_3, SHl_4, SHl_5, SHl_6, SHl_7, SHl_8, SHl_9, SHl_10, SHl_11, SHl_12, SHl_13, SHl_14, SHl_15, SHl_16, SHl_17, SHl_18, SHl_19, SHl_20, SHl_21, SHl_22, SHl_23, SHl_24, SHl_25, SHl_26, SHl_27, SHl_28, SHl_29, SHl_30, SHl_31, SHl_32, SHl_33, SHl_34, SHl_35, SHl_36, SHl_37, SHl_38, SHl_39, SHl_40, SHl_41, SHl_42, SHl_43, SHl_44, SHl_45, SHl_46, SHl_47, SHl_48, SHl_49, SHl_50, SHl_51, SHl_52, SHl_53, SHl_54, SHl_55, SHl_56, SHl_57, S_X7_acted, S_X7_isNoPiece, S_X7_isSignature]
  obtain ⟨w0, w1, w2⟩ := vC_0 σ 7
  obtain ⟨o1, o2, o3, -, oc, on⟩ := id hV
  (repeat' (first | apply And.intro | intro _)) <;> first | omega | (repeat (first | rw [if_pos (by omega)] at hq | rw [if_neg (by omega)] at hq)) <;> first | exact hq | exact hq _ ‹_›
def S_X7_shift : MSpec := fun a σ Q => match a with
  | [.inr (.inl 0), .inl t] => R32 t ∧ okV (vC σ 7) ∧ (0 ≤ σ 38 0 ∧ σ 38 0 ≤ 16) ∧ (if σ 7 1 = 0 then Q (some (.inl (-1000002))) σ else if ¬ (-6 ≤ t ∧ t ≤ 6) then Q (some (.inl (-1000001))) σ else if t = 0 ∨ ¬ (0 ≤ σ 7 0 + t ∧ σ 7 0 + t < 15) then Q (some (.inl (-1000002))) σ else ∀ ρ τ, only σ ρ (fun q => q = 7 ∨ q = 12) → vC ρ 7 = shV (vC σ 7) t → kpOk ρ τ 3 0 t → Q (some (.inl (σ 7 0 + t))) (chgd τ))
  | _ => False
theorem rc_X7_shift : ∀ a σ Q, S_X7_shift a σ Q → ∃ (p : Nat) (r : List AV), a = .inr (.inl p) :: r ∧ p < 76 ∧ (SH p).1 = 4 ∧ (SH p).2.1 = 6 := by
  intro a σ Q h
  unfold S_X7_shift at h
  split at h
  · exact ⟨0, _, rfl, by decide, rfl, rfl⟩
  · exact h.elim
def mT_X7_shift (i : Nat) : Option (Nat × Bool × MSpec) := match i with
  | 158 => some (4, true, S_X7_acted)
  | 167 => some (1, true, S_X7_isNoPiece)
  | 171 => some (1, false, S_X7_isSignature)
  | 177 => some (2, true, S_X4_moveBy)
  | _ => none
theorem mT_X7_shift_ok {l : Launch} {n : Nat} (hn : 3 ≤ n) : ∀ i e, mT_X7_shift i = some e → mV l (rmOf n) RX7 i e := by
  intro i e h
  unfold mT_X7_shift at h
  split at h
  · cases h; exact mvI (lv := 2) (ci := 6) (T := TX7) (N := 15) mw_X7_acted rfl (by omega) (by decide) (by decide +kernel) (gtm 440 (by decide +kernel) (by decide +kernel)) rc_X7_acted ok_X7_acted
  · cases h; exact mvI (lv := 0) (ci := 6) (T := TX7) (N := 15) mw_X7_isNoPiece rfl (by omega) (by decide) (by decide +kernel) (gtm 465 (by decide +kernel) (by decide +kernel)) rc_X7_isNoPiece ok_X7_isNoPiece
  · cases h; exact mvS (lv := 0) mw_X7_isSignature (by omega) (by decide) (by decide +kernel) (Or.inl (gtm 469 (by decide +kernel) (by decide +kernel))) ok_X7_isSignature
  · cases h; exact mvI (lv := 1) (ci := 3) (T := TX4) (N := 9) mw_X4_moveBy rfl (by omega) (by decide) (by decide +kernel) (gtm 474 (by decide +kernel) (by decide +kernel)) rc_X4_moveBy ok_X4_moveBy
  · cases h
set_option maxRecDepth 100000 in
set_option maxHeartbeats 4000000 in
theorem ok_X7_shift : ∀ l n, 3 ≤ n → ∀ a σ Q, S_X7_shift a σ Q → AM l n yX7_shift cX7_shift 2 (some .int) a σ Q := by
  intro l n hn a σ Q hS
  unfold S_X7_shift at hS
  split at hS
  rotate_left
  · exact hS.elim
  rename_i t
  obtain ⟨⟨v1, v2⟩, hV, hA, hq⟩ := hS
  refine am_ofF 1 cpX7 mT_X7_shift (plainFor_of_name (by decide +kernel)) (rfl) (Nat.le_of_ble_eq_true rfl) (cpX7_ok) (mT_X7_shift_ok hn) (fun K hK => ?_)
  refine hK (fun _ => false) 200 _ _ _ _ ?_
  simp only [↓wp, ↓stp, ilen, lnth, st1, st2, nolong, nohead, rnth, ↓gfX, ↓pfX, gfV, pfV, cpF, cpP, cndZ, ↓tgo, ↓tsw, ↓lsw, ↓ldI, ↓ldA, ↓ldL, ↓stI, ↓stA, ↓stL, ↓bin, ↓binD, ↓binL, ↓binDL, ↓una, ↓acV, ↓acK, ↓acpy, ↓inv, entL, nones, List.length_cons, List.length_nil, List.take, List.drop, List.reverse_cons, List.reverse_nil, List.nil_append, List.cons_append, Option.toList_some, Option.toList_none, Nat.reduceAdd, Nat.reduceSub, Nat.reduceLT, Nat.reduceEqDiff, Fin.isValue, aTL, aSZ, Int.toNat_natCast, hset_same, hset_o, hset_s, hset_row, ne_eq, Nat.reduceBEq, beq_self_eq_true, Fin.val_zero, Fin.val_one, fin0, fin1, fin2, fin3, Nat.le_refl, Nat.reduceLeDiff, Nat.zero_le, Int.reduceAdd, Int.reduceNeg, Int.reduceLE, Int.reduceLT, Int.reduceToNat, Int.reduceMul, Int.cast_ofNat_Int, Nat.reduceMod, ↓reduceIte, if_true, if_false, and_true, true_and, or_true, true_or, false_or, or_false, and_self, not_true_eq_false, not_false_eq_true, Bool.false_eq_true, reduceCtorEq, false_implies, true_implies, implies_true, and_false, false_and, dX7_shift_0, dX7_shift_1, dX7_shift_4, dX7_shift_7, dX7_shift_9, dX7_shift_10, dX7_shift_11, dX7_shift_13, dX7_shift_16, dX7_shift_17, dX7_shift_19, dX7_shift_22, dX7_shift_24, dX7_shift_25, dX7_shift_26, dX7_shift_29, dX7_shift_30, dX7_shift_33, dX7_shift_36, dX7_shift_37, dX7_shift_38, dX7_shift_41, dX7_shift_44, dX7_shift_46, dX7_shift_47, dX7_shift_48, dX7_shift_51, dX7_shift_52, dX7_shift_55, dX7_shift_56, dX7_shift_57, dX7_shift_58, dX7_shift_59, dX7_shift_62, dX7_shift_63, dX7_shift_66, dX7_shift_69, cpX7, mT_X7_shift, SHl_0, SHl_1, SHl_2, SHl_3, SHl_4, SHl_5, SHl_6, SHl_7, SHl_8, SHl_9, SHl_10, SHl_11, SHl_12, SHl_13, SHl_14, SHl_15, SHl_16, SHl_17, SHl_18, SHl_19, SHl_20, SHl_21, SHl_22, SHl_23, SHl_24, SHl_25, SHl_26, SHl_27, SHl_28, SHl_29, SHl_30, SHl_31, SHl_32, SHl_33, SHl_34, SHl_35, SHl_36, SHl_37, SHl_38, SHl_39, SHl_40, SHl_41, SHl_42, SHl_43, SHl_44, SHl_45, SHl_46, SHl_47, SHl_48, SHl_49, SHl_50, SHl_51, SHl_52, SHl_53, SHl_54, SHl_55, SHl_56, SHl_57, S_X4_moveBy, S_X7_acted, S_X7_isNoPiece, S_X7_isSignature]
  obtain ⟨w0, w1, w2⟩ := vC_0 σ 7
  obtain ⟨o1, o2, o3, -, oc, on⟩ := id hV
  have fin : ¬ σ 7 1 = 0 → (-6 ≤ t ∧ t ≤ 6) → ¬ t = 0 → (0 ≤ σ 7 0 + t ∧ σ 7 0 + t < 15) → ∀ ρ, only σ ρ (fun q => q = 7 ∨ q = 7 + 5) → vC ρ 7 = shV (vC σ 7) t → ((0 ≤ ρ 38 0 ∧ ρ 38 0 ≤ 16) ∧ ∀ τ, kpOk ρ τ 3 0 t → Q (some (.inl (chgd τ 7 0))) (chgd τ)) := by
    intro b1 b2 b3 b4 ρ ho hv
    rw [if_neg b1, if_neg (by omega), if_neg (by omega)] at hq
    refine ⟨by rw [ho 38 (by omega)]; exact hA, fun τ hτ => ?_⟩
    have h7 : chgd τ 7 0 = σ 7 0 + t := by
      unfold chgd
      rw [hset_o (by decide), hset_o (by decide), hτ.1 7 (by omega), ← (vC_0 ρ 7).1, hv]
      unfold shV
      rw [if_pos ⟨rfl, rfl⟩, w0]
    rw [h7]
    exact hq ρ τ ho hv hτ
  (repeat' (first | exact isPc_7 | exact hV | exact fin (by omega) (by omega) (by omega) (by omega) _ ‹_› ‹_› | apply And.intro | intro _)) <;> first | omega | (repeat (first | rw [if_pos (by omega)] at hq | rw [if_neg (by omega)] at hq)) <;> exact hq
def S_X7_undo : MSpec := fun a σ Q => match a with
  | [.inr (.inl 0)] => (0 ≤ σ 38 0 ∧ σ 38 0 ≤ 16) ∧ (if σ 38 0 = 0 then Q (some (.inl (-1000002))) σ else S_X0_takeBack [.inr (.inl 38), .inr (.inl 7)] σ (fun _ τ => Q (some (.inl (τ 38 0))) (chgd τ)))
  | _ => False
theorem rc_X7_undo : ∀ a σ Q, S_X7_undo a σ Q → ∃ (p : Nat) (r : List AV), a = .inr (.inl p) :: r ∧ p < 76 ∧ (SH p).1 = 4 ∧ (SH p).2.1 = 6 := by
  intro a σ Q h
  unfold S_X7_undo at h
  split at h
  · exact ⟨0, _, rfl, by decide, rfl, rfl⟩
  · exact h.elim
def mT_X7_undo (i : Nat) : Option (Nat × Bool × MSpec) := match i with
  | 141 => some (1, true, S_X7_changed)
  | 183 => some (2, true, S_X0_takeBack)
  | _ => none
theorem mT_X7_undo_ok {l : Launch} {n : Nat} (hn : 3 ≤ n) : ∀ i e, mT_X7_undo i = some e → mV l (rmOf n) RX7 i e := by
  intro i e h
  unfold mT_X7_undo at h
  split at h
  · cases h; exact mvI (lv := 0) (ci := 6) (T := TX7) (N := 15) mw_X7_changed rfl (by omega) (by decide) (by decide +kernel) (gtm 422 (by decide +kernel) (by decide +kernel)) rc_X7_changed ok_X7_changed
  · cases h; exact mvI (lv := 2) (ci := 0) (T := TX0) (N := 4) mw_X0_takeBack rfl (by omega) (by decide) (by decide +kernel) (gtm 485 (by decide +kernel) (by decide +kernel)) rc_X0_takeBack ok_X0_takeBack
  · cases h
set_option maxRecDepth 100000 in
set_option maxHeartbeats 4000000 in
theorem ok_X7_undo : ∀ l n, 3 ≤ n → ∀ a σ Q, S_X7_undo a σ Q → AM l n yX7_undo cX7_undo 1 (some .int) a σ Q := by
  intro l n hn a σ Q hS
  unfold S_X7_undo at hS
  split at hS
  rotate_left
  · exact hS.elim
  obtain ⟨hA, hq⟩ := hS
  refine am_ofF 1 cpX7 mT_X7_undo (plainFor_of_name (by decide +kernel)) (rfl) (Nat.le_of_ble_eq_true rfl) (cpX7_ok) (mT_X7_undo_ok hn) (fun K hK => ?_)
  refine hK (fun _ => false) 200 _ _ _ _ ?_
  simp only [↓wp, ↓stp, ilen, lnth, st1, st2, nolong, nohead, rnth, ↓gfX, ↓pfX, gfV, pfV, cpF, cpP, cndZ, ↓tgo, ↓tsw, ↓lsw, ↓ldI, ↓ldA, ↓ldL, ↓stI, ↓stA, ↓stL, ↓bin, ↓binD, ↓binL, ↓binDL, ↓una, ↓acV, ↓acK, ↓acpy, ↓inv, entL, nones, List.length_cons, List.length_nil, List.take, List.drop, List.reverse_cons, List.reverse_nil, List.nil_append, List.cons_append, Option.toList_some, Option.toList_none, Nat.reduceAdd, Nat.reduceSub, Nat.reduceLT, Nat.reduceEqDiff, Fin.isValue, aTL, aSZ, Int.toNat_natCast, hset_same, hset_o, hset_s, hset_row, ne_eq, Nat.reduceBEq, beq_self_eq_true, Fin.val_zero, Fin.val_one, fin0, fin1, fin2, fin3, Nat.le_refl, Nat.reduceLeDiff, Nat.zero_le, Int.reduceAdd, Int.reduceNeg, Int.reduceLE, Int.reduceLT, Int.reduceToNat, Int.reduceMul, Int.cast_ofNat_Int, Nat.reduceMod, ↓reduceIte, if_true, if_false, and_true, true_and, or_true, true_or, false_or, or_false, and_self, not_true_eq_false, not_false_eq_true, Bool.false_eq_true, reduceCtorEq, false_implies, true_implies, implies_true, and_false, false_and, dX7_undo_0, dX7_undo_1, dX7_undo_4, dX7_undo_7, dX7_undo_10, dX7_undo_12, dX7_undo_13, dX7_undo_14, dX7_undo_17, dX7_undo_18, dX7_undo_21, dX7_undo_24, dX7_undo_25, dX7_undo_28, dX7_undo_29, dX7_undo_32, dX7_undo_35, cpX7, mT_X7_undo, SHl_0, SHl_1, SHl_2, SHl_3, SHl_4, SHl_5, SHl_6, SHl_7, SHl_8, SHl_9, SHl_10, SHl_11, SHl_12, SHl_13, SHl_14, SHl_15, SHl_16, SHl_17, SHl_18, SHl_19, SHl_20, SHl_21, SHl_22, SHl_23, SHl_24, SHl_25, SHl_26, SHl_27, SHl_28, SHl_29, SHl_30, SHl_31, SHl_32, SHl_33, SHl_34, SHl_35, SHl_36, SHl_37, SHl_38, SHl_39, SHl_40, SHl_41, SHl_42, SHl_43, SHl_44, SHl_45, SHl_46, SHl_47, SHl_48, SHl_49, SHl_50, SHl_51, SHl_52, SHl_53, SHl_54, SHl_55, SHl_56, SHl_57, S_X0_takeBack, S_X7_changed]
  refine ⟨⟨by omega, by omega⟩, fun q => ?_, fun q => ?_⟩
  · rw [if_neg (by omega)] at hq
    exact hq
  · rw [if_pos (by omega)] at hq
    exact hq
def S_X7_image : MSpec := fun a σ Q => match a with
  | [.inr (.inl 0), .inl k] => R32 k ∧ okV (vC σ 7) ∧ (if ¬ (0 ≤ k ∧ k < 2) then Q (some (.inl (-1000001))) σ else if σ 7 1 = 0 then Q (some (.inl (-1000002))) σ else ∀ τ, only σ τ (inP (44 + 7 * k.toNat)) → vC τ (44 + 7 * k.toNat) = vC σ 7 → (coOk σ 7 → coOk τ (44 + 7 * k.toNat)) → Q (some (.inl 1)) τ)
  | _ => False
theorem rc_X7_image : ∀ a σ Q, S_X7_image a σ Q → ∃ (p : Nat) (r : List AV), a = .inr (.inl p) :: r ∧ p < 76 ∧ (SH p).1 = 4 ∧ (SH p).2.1 = 6 := by
  intro a σ Q h
  unfold S_X7_image at h
  split at h
  · exact ⟨0, _, rfl, by decide, rfl, rfl⟩
  · exact h.elim
def mT_X7_image (i : Nat) : Option (Nat × Bool × MSpec) := match i with
  | 134 => some (2, true, S_X4_becomeLike)
  | 167 => some (1, true, S_X7_isNoPiece)
  | _ => none
theorem mT_X7_image_ok {l : Launch} {n : Nat} (hn : 1 ≤ n) : ∀ i e, mT_X7_image i = some e → mV l (rmOf n) RX7 i e := by
  intro i e h
  unfold mT_X7_image at h
  split at h
  · cases h; exact mvI (lv := 0) (ci := 3) (T := TX4) (N := 9) mw_X4_becomeLike rfl (by omega) (by decide) (by decide +kernel) (gtm 413 (by decide +kernel) (by decide +kernel)) rc_X4_becomeLike ok_X4_becomeLike
  · cases h; exact mvI (lv := 0) (ci := 6) (T := TX7) (N := 15) mw_X7_isNoPiece rfl (by omega) (by decide) (by decide +kernel) (gtm 465 (by decide +kernel) (by decide +kernel)) rc_X7_isNoPiece ok_X7_isNoPiece
  · cases h
set_option maxRecDepth 100000 in
set_option maxHeartbeats 4000000 in
theorem ok_X7_image : ∀ l n, 1 ≤ n → ∀ a σ Q, S_X7_image a σ Q → AM l n yX7_image cX7_image 2 (some .int) a σ Q := by
  intro l n hn a σ Q hS
  unfold S_X7_image at hS
  split at hS
  rotate_left
  · exact hS.elim
  rename_i k
  obtain ⟨⟨k1, k2⟩, hV, hq⟩ := hS
  obtain ⟨w0, w1, w2⟩ := vC_0 σ 7
  have o2 := hV.2.1
  refine am_ofF 1 cpX7 mT_X7_image (plainFor_of_name (by decide +kernel)) (rfl) (Nat.le_of_ble_eq_true rfl) (cpX7_ok) (mT_X7_image_ok hn) (fun K hK => ?_)
  by_cases hk : 0 ≤ k ∧ k < 2
  · rw [if_neg (fun z => z hk)] at hq
    rcases (show k = 0 ∨ k = 1 by omega) with rfl | rfl
    · refine hK (fun _ => false) 200 _ _ _ _ ?_
      simp only [↓wp, ↓stp, ilen, lnth, st1, st2, nolong, nohead, rnth, ↓gfX, ↓pfX, gfV, pfV, cpF, cpP, cndZ, ↓tgo, ↓tsw, ↓lsw, ↓ldI, ↓ldA, ↓ldL, ↓stI, ↓stA, ↓stL, ↓bin, ↓binD, ↓binL, ↓binDL, ↓una, ↓acV, ↓acK, ↓acpy, ↓inv, entL, nones, List.length_cons, List.length_nil, List.take, List.drop, List.reverse_cons, List.reverse_nil, List.nil_append, List.cons_append, Option.toList_some, Option.toList_none, Nat.reduceAdd, Nat.reduceSub, Nat.reduceLT, Nat.reduceEqDiff, Fin.isValue, aTL, aSZ, Int.toNat_natCast, hset_same, hset_o, hset_s, hset_row, ne_eq, Nat.reduceBEq, beq_self_eq_true, Fin.val_zero, Fin.val_one, fin0, fin1, fin2, fin3, Nat.le_refl, Nat.reduceLeDiff, Nat.zero_le, Int.reduceAdd, Int.reduceNeg, Int.reduceLE, Int.reduceLT, Int.reduceToNat, Int.reduceMul, Int.cast_ofNat_Int, Nat.reduceMod, ↓reduceIte, if_true, if_false, and_true, true_and, or_true, true_or, false_or, or_false, and_self, not_true_eq_false, not_false_eq_true, Bool.false_eq_true, reduceCtorEq, false_implies, true_implies, implies_true, and_false, false_and, dX7_image_0, dX7_image_1, dX7_image_4, dX7_image_5, dX7_image_6, dX7_image_9, dX7_image_11, dX7_image_12, dX7_image_13, dX7_image_16, dX7_image_19, dX7_image_21, dX7_image_22, dX7_image_23, dX7_image_26, dX7_image_27, dX7_image_28, dX7_image_29, dX7_image_32, dX7_image_35, dX7_image_36, cpX7, mT_X7_image, SHl_0, SHl_1, SHl_2, SHl_3, SHl_4, SHl_5, SHl_6, SHl_7, SHl_8, SHl_9, SHl_10, SHl_11, SHl_12, SHl_13, SHl_14, SHl_15, SHl_16, SHl_17, SHl_18, SHl_19, SHl_20, SHl_21, SHl_22, SHl_23, SHl_24, SHl_25, SHl_26, SHl_27, SHl_28, SHl_29, SHl_30, SHl_31, SHl_32, SHl_33, SHl_34, SHl_35, SHl_36, SHl_37, SHl_38, SHl_39, SHl_40, SHl_41, SHl_42, SHl_43, SHl_44, SHl_45, SHl_46, SHl_47, SHl_48, SHl_49, SHl_50, SHl_51, SHl_52, SHl_53, SHl_54, SHl_55, SHl_56, SHl_57, S_X4_becomeLike, S_X7_isNoPiece]
      by_cases h0 : σ 7 1 = 0
      · rw [if_pos h0] at hq
        (repeat' (first | exact hq | apply And.intro | intro _)) <;> omega
      · rw [if_neg h0] at hq
        (repeat' (first | exact isPc_44 | exact isPc_7 | exact hV | exact hq _ ‹_› ‹_› ‹_› | apply And.intro | intro _)) <;> omega
    · refine hK (fun _ => false) 200 _ _ _ _ ?_
      simp only [↓wp, ↓stp, ilen, lnth, st1, st2, nolong, nohead, rnth, ↓gfX, ↓pfX, gfV, pfV, cpF, cpP, cndZ, ↓tgo, ↓tsw, ↓lsw, ↓ldI, ↓ldA, ↓ldL, ↓stI, ↓stA, ↓stL, ↓bin, ↓binD, ↓binL, ↓binDL, ↓una, ↓acV, ↓acK, ↓acpy, ↓inv, entL, nones, List.length_cons, List.length_nil, List.take, List.drop, List.reverse_cons, List.reverse_nil, List.nil_append, List.cons_append, Option.toList_some, Option.toList_none, Nat.reduceAdd, Nat.reduceSub, Nat.reduceLT, Nat.reduceEqDiff, Fin.isValue, aTL, aSZ, Int.toNat_natCast, hset_same, hset_o, hset_s, hset_row, ne_eq, Nat.reduceBEq, beq_self_eq_true, Fin.val_zero, Fin.val_one, fin0, fin1, fin2, fin3, Nat.le_refl, Nat.reduceLeDiff, Nat.zero_le, Int.reduceAdd, Int.reduceNeg, Int.reduceLE, Int.reduceLT, Int.reduceToNat, Int.reduceMul, Int.cast_ofNat_Int, Nat.reduceMod, ↓reduceIte, if_true, if_false, and_true, true_and, or_true, true_or, false_or, or_false, and_self, not_true_eq_false, not_false_eq_true, Bool.false_eq_true, reduceCtorEq, false_implies, true_implies, implies_true, and_false, false_and, dX7_image_0, dX7_image_1, dX7_image_4, dX7_image_5, dX7_image_6, dX7_image_9, dX7_image_11, dX7_image_12, dX7_image_13, dX7_image_16, dX7_image_19, dX7_image_21, dX7_image_22, dX7_image_23, dX7_image_26, dX7_image_27, dX7_image_28, dX7_image_29, dX7_image_32, dX7_image_35, dX7_image_36, cpX7, mT_X7_image, SHl_0, SHl_1, SHl_2, SHl_3, SHl_4, SHl_5, SHl_6, SHl_7, SHl_8, SHl_9, SHl_10, SHl_11, SHl_12, SHl_13, SHl_14, SHl_15, SHl_16, SHl_17, SHl_18, SHl_19, SHl_20, SHl_21, SHl_22, SHl_23, SHl_24, SHl_25, SHl_26, SHl_27, SHl_28, SHl_29, SHl_30, SHl_31, SHl_32, SHl_33, SHl_34, SHl_35, SHl_36, SHl_37, SHl_38, SHl_39, SHl_40, SHl_41, SHl_42, SHl_43, SHl_44, SHl_45, SHl_46, SHl_47, SHl_48, SHl_49, SHl_50, SHl_51, SHl_52, SHl_53, SHl_54, SHl_55, SHl_56, SHl_57, S_X4_becomeLike, S_X7_isNoPiece]
      by_cases h0 : σ 7 1 = 0
      · rw [if_pos h0] at hq
        (repeat' (first | exact hq | apply And.intro | intro _)) <;> omega
      · rw [if_neg h0] at hq
        (repeat' (first | exact isPc_51 | exact isPc_7 | exact hV | exact hq _ ‹_› ‹_› ‹_› | apply And.intro | intro _)) <;> omega
  · rw [if_pos hk] at hq
    refine hK (fun q => q == 12) 200 _ _ _ _ ?_
    simp only [↓wp, ↓stp, ilen, lnth, st1, st2, nolong, nohead, rnth, ↓gfX, ↓pfX, gfV, pfV, cpF, cpP, cndZ, ↓tgo, ↓tsw, ↓lsw, ↓ldI, ↓ldA, ↓ldL, ↓stI, ↓stA, ↓stL, ↓bin, ↓binD, ↓binL, ↓binDL, ↓una, ↓acV, ↓acK, ↓acpy, ↓inv, entL, nones, List.length_cons, List.length_nil, List.take, List.drop, List.reverse_cons, List.reverse_nil, List.nil_append, List.cons_append, Option.toList_some, Option.toList_none, Nat.reduceAdd, Nat.reduceSub, Nat.reduceLT, Nat.reduceEqDiff, Fin.isValue, aTL, aSZ, Int.toNat_natCast, hset_same, hset_o, hset_s, hset_row, ne_eq, Nat.reduceBEq, beq_self_eq_true, Fin.val_zero, Fin.val_one, fin0, fin1, fin2, fin3, Nat.le_refl, Nat.reduceLeDiff, Nat.zero_le, Int.reduceAdd, Int.reduceNeg, Int.reduceLE, Int.reduceLT, Int.reduceToNat, Int.reduceMul, Int.cast_ofNat_Int, Nat.reduceMod, ↓reduceIte, if_true, if_false, and_true, true_and, or_true, true_or, false_or, or_false, and_self, not_true_eq_false, not_false_eq_true, Bool.false_eq_true, reduceCtorEq, false_implies, true_implies, implies_true, and_false, false_and, dX7_image_0, dX7_image_1, dX7_image_4, dX7_image_5, dX7_image_6, dX7_image_9, dX7_image_11, dX7_image_12, dX7_image_13, dX7_image_16, dX7_image_19, dX7_image_21, dX7_image_22, dX7_image_23, dX7_image_26, dX7_image_27, dX7_image_28, dX7_image_29, dX7_image_32, dX7_image_35, dX7_image_36, cpX7, mT_X7_image, SHl_0, SHl_1, SHl_2, SHl_3, SHl_4, SHl_5, SHl_6, SHl_7, SHl_8, SHl_9, SHl_10, SHl_11, SHl_12, SHl_13, SHl_14, SHl_15, SHl_16, SHl_17, SHl_18, SHl_19, SHl_20, SHl_21, SHl_22, SHl_23, SHl_24, SHl_25, SHl_26, SHl_27, SHl_28, SHl_29, SHl_30, SHl_31, SHl_32, SHl_33, SHl_34, SHl_35, SHl_36, SHl_37, SHl_38, SHl_39, SHl_40, SHl_41, SHl_42, SHl_43, SHl_44, SHl_45, SHl_46, SHl_47, SHl_48, SHl_49, SHl_50, SHl_51, SHl_52, SHl_53, SHl_54, SHl_55, SHl_56, SHl_57, S_X4_becomeLike, S_X7_isNoPiece]
    (repeat' (first | exact hq | apply And.intro | intro _)) <;> omega
def S_X7_restore : MSpec := fun a σ Q => match a with
  | [.inr (.inl 0), .inl k] => R32 k ∧ (if ¬ (0 ≤ k ∧ k < 2) then Q (some (.inl (-1000001))) σ else okV (vC σ (44 + 7 * k.toNat)) ∧ (if σ (44 + 7 * k.toNat) 1 = 0 then Q (some (.inl (-1000002))) σ else ∀ τ, only σ τ (inP 7) → vC τ 7 = vC σ (44 + 7 * k.toNat) → (coOk σ (44 + 7 * k.toNat) → coOk τ 7) → Q (some (.inl 1)) (chgd (hset τ 38 0 0))))
  | _ => False
theorem rc_X7_restore : ∀ a σ Q, S_X7_restore a σ Q → ∃ (p : Nat) (r : List AV), a = .inr (.inl p) :: r ∧ p < 76 ∧ (SH p).1 = 4 ∧ (SH p).2.1 = 6 := by
  intro a σ Q h
  unfold S_X7_restore at h
  split at h
  · exact ⟨0, _, rfl, by decide, rfl, rfl⟩
  · exact h.elim
def mT_X7_restore (i : Nat) : Option (Nat × Bool × MSpec) := match i with
  | 134 => some (2, true, S_X4_becomeLike)
  | 138 => some (1, true, S_X0_forgetAll)
  | 141 => some (1, true, S_X7_changed)
  | _ => none
theorem mT_X7_restore_ok {l : Launch} {n : Nat} (hn : 1 ≤ n) : ∀ i e, mT_X7_restore i = some e → mV l (rmOf n) RX7 i e := by
  intro i e h
  unfold mT_X7_restore at h
  split at h
  · cases h; exact mvI (lv := 0) (ci := 3) (T := TX4) (N := 9) mw_X4_becomeLike rfl (by omega) (by decide) (by decide +kernel) (gtm 413 (by decide +kernel) (by decide +kernel)) rc_X4_becomeLike ok_X4_becomeLike
  · cases h; exact mvI (lv := 0) (ci := 0) (T := TX0) (N := 4) mw_X0_forgetAll rfl (by omega) (by decide) (by decide +kernel) (gtm 418 (by decide +kernel) (by decide +kernel)) rc_X0_forgetAll ok_X0_forgetAll
  · cases h; exact mvI (lv := 0) (ci := 6) (T := TX7) (N := 15) mw_X7_changed rfl (by omega) (by decide) (by decide +kernel) (gtm 422 (by decide +kernel) (by decide +kernel)) rc_X7_changed ok_X7_changed
  · cases h
set_option maxRecDepth 100000 in
set_option maxHeartbeats 4000000 in
theorem ok_X7_restore : ∀ l n, 1 ≤ n → ∀ a σ Q, S_X7_restore a σ Q → AM l n yX7_restore cX7_restore 2 (some .int) a σ Q := by
  intro l n hn a σ Q hS
  unfold S_X7_restore at hS
  split at hS
  rotate_left
  · exact hS.elim
  rename_i k
  obtain ⟨⟨k1, k2⟩, hq⟩ := hS
  refine am_ofF 1 cpX7 mT_X7_restore (plainFor_of_name (by decide +kernel)) (rfl) (Nat.le_of_ble_eq_true rfl) (cpX7_ok) (mT_X7_restore_ok hn) (fun K hK => ?_)
  by_cases hk : 0 ≤ k ∧ k < 2
  · rw [if_neg (fun z => z hk)] at hq
    obtain ⟨hV, hq⟩ := hq
    rcases (show k = 0 ∨ k = 1 by omega) with rfl | rfl
    · obtain ⟨w0, w1, w2⟩ := vC_0 σ 44
      have hV : okV (vC σ 44) := hV
      have o2 := hV.2.1
      refine hK (fun _ => false) 200 _ _ _ _ ?_
      simp only [↓wp, ↓stp, ilen, lnth, st1, st2, nolong, nohead, rnth, ↓gfX, ↓pfX, gfV, pfV, cpF, cpP, cndZ, ↓tgo, ↓tsw, ↓lsw, ↓ldI, ↓ldA, ↓ldL, ↓stI, ↓stA, ↓stL, ↓bin, ↓binD, ↓binL, ↓binDL, ↓una, ↓acV, ↓acK, ↓acpy, ↓inv, entL, nones, List.length_cons, List.length_nil, List.take, List.drop, List.reverse_cons, List.reverse_nil, List.nil_append, List.cons_append, Option.toList_some, Option.toList_none, Nat.reduceAdd, Nat.reduceSub, Nat.reduceLT, Nat.reduceEqDiff, Fin.isValue, aTL, aSZ, Int.toNat_natCast, hset_same, hset_o, hset_s, hset_row, ne_eq, Nat.reduceBEq, beq_self_eq_true, Fin.val_zero, Fin.val_one, fin0, fin1, fin2, fin3, Nat.le_refl, Nat.reduceLeDiff, Nat.zero_le, Int.reduceAdd, Int.reduceNeg, Int.reduceLE, Int.reduceLT, Int.reduceToNat, Int.reduceMul, Int.cast_ofNat_Int, Nat.reduceMod, ↓reduceIte, if_true, if_false, and_true, true_and, or_true, true_or, false_or, or_false, and_self, not_true_eq_false, not_false_eq_true, Bool.false_eq_true, reduceCtorEq, false_implies, true_implies, implies_true, and_false, false_and, dX7_restore_0, dX7_restore_1, dX7_restore_4, dX7_restore_5, dX7_restore_6, dX7_restore_9, dX7_restore_11, dX7_restore_12, dX7_restore_13, dX7_restore_16, dX7_restore_17, dX7_restore_18, dX7_restore_21, dX7_restore_24, dX7_restore_26, dX7_restore_27, dX7_restore_28, dX7_restore_31, dX7_restore_32, dX7_restore_35, dX7_restore_36, dX7_restore_37, dX7_restore_40, dX7_restore_41, dX7_restore_44, dX7_restore_47, dX7_restore_48, dX7_restore_51, dX7_restore_52, cpX7, mT_X7_restore, SHl_0, SHl_1, SHl_2, SHl_3, SHl_4, SHl_5, SHl_6, SHl_7, SHl_8, SHl_9, SHl_10, SHl_11, SHl_12, SHl_13, SHl_14, SHl_15, SHl_16, SHl_17, SHl_18, SHl_19, SHl_20, SHl_21, SHl_22, SHl_23, SHl_24, SHl_25, SHl_26, SHl_27, SHl_28, SHl_29, SHl_30, SHl_31, SHl_32, SHl_33, SHl_34, SHl_35, SHl_36, SHl_37, SHl_38, SHl_39, SHl_40, SHl_41, SHl_42, SHl_43, SHl_44, SHl_45, SHl_46, SHl_47, SHl_48, SHl_49, SHl_50, SHl_51, SHl_52, SHl_53, SHl_54, SHl_55, SHl_56, SHl_57, S_X0_forgetAll, S_X4_becomeLike, S_X7_changed]
      by_cases h0 : σ 44 1 = 0
      · have hq : Q (some (.inl (-1000002))) σ := by rw [show 44 + 7 * Int.toNat 0 = 44 from rfl, if_pos h0] at hq; exact hq
        (repeat' (first | exact hq | apply And.intro | intro _)) <;> omega
      · have hq : ∀ τ, only σ τ (inP 7) → vC τ 7 = vC σ 44 → (coOk σ 44 → coOk τ 7) → Q (some (.inl 1)) (chgd (hset τ 38 0 0)) := by rw [show 44 + 7 * Int.toNat 0 = 44 from rfl, if_neg h0] at hq; exact hq
        (repeat' (first | exact isPc_44 | exact isPc_7 | exact hV | exact hq _ ‹_› ‹_› ‹_› | apply And.intro | intro _)) <;> omega
    · obtain ⟨w0, w1, w2⟩ := vC_0 σ 51
      have hV : okV (vC σ 51) := hV
      have o2 := hV.2.1
      refine hK (fun _ => false) 200 _ _ _ _ ?_
      simp only [↓wp, ↓stp, ilen, lnth, st1, st2, nolong, nohead, rnth, ↓gfX, ↓pfX, gfV, pfV, cpF, cpP, cndZ, ↓tgo, ↓tsw, ↓lsw, ↓ldI, ↓ldA, ↓ldL, ↓stI, ↓stA, ↓stL, ↓bin, ↓binD, ↓binL, ↓binDL, ↓una, ↓acV, ↓acK, ↓acpy, ↓inv, entL, nones, List.length_cons, List.length_nil, List.take, List.drop, List.reverse_cons, List.reverse_nil, List.nil_append, List.cons_append, Option.toList_some, Option.toList_none, Nat.reduceAdd, Nat.reduceSub, Nat.reduceLT, Nat.reduceEqDiff, Fin.isValue, aTL, aSZ, Int.toNat_natCast, hset_same, hset_o, hset_s, hset_row, ne_eq, Nat.reduceBEq, beq_self_eq_true, Fin.val_zero, Fin.val_one, fin0, fin1, fin2, fin3, Nat.le_refl, Nat.reduceLeDiff, Nat.zero_le, Int.reduceAdd, Int.reduceNeg, Int.reduceLE, Int.reduceLT, Int.reduceToNat, Int.reduceMul, Int.cast_ofNat_Int, Nat.reduceMod, ↓reduceIte, if_true, if_false, and_true, true_and, or_true, true_or, false_or, or_false, and_self, not_true_eq_false, not_false_eq_true, Bool.false_eq_true, reduceCtorEq, false_implies, true_implies, implies_true, and_false, false_and, dX7_restore_0, dX7_restore_1, dX7_restore_4, dX7_restore_5, dX7_restore_6, dX7_restore_9, dX7_restore_11, dX7_restore_12, dX7_restore_13, dX7_restore_16, dX7_restore_17, dX7_restore_18, dX7_restore_21, dX7_restore_24, dX7_restore_26, dX7_restore_27, dX7_restore_28, dX7_restore_31, dX7_restore_32, dX7_restore_35, dX7_restore_36, dX7_restore_37, dX7_restore_40, dX7_restore_41, dX7_restore_44, dX7_restore_47, dX7_restore_48, dX7_restore_51, dX7_restore_52, cpX7, mT_X7_restore, SHl_0, SHl_1, SHl_2, SHl_3, SHl_4, SHl_5, SHl_6, SHl_7, SHl_8, SHl_9, SHl_10, SHl_11, SHl_12, SHl_13, SHl_14, SHl_15, SHl_16, SHl_17, SHl_18, SHl_19, SHl_20, SHl_21, SHl_22, SHl_23, SHl_24, SHl_25, SHl_26, SHl_27, SHl_28, SHl_29, SHl_30, SHl_31, SHl_32, SHl_33, SHl_34, SHl_35, SHl_36, SHl_37, SHl_38, SHl_39, SHl_40, SHl_41, SHl_42, SHl_43, SHl_44, SHl_45, SHl_46, SHl_47, SHl_48, SHl_49, SHl_50, SHl_51, SHl_52, SHl_53, SHl_54, SHl_55, SHl_56, SHl_57, S_X0_forgetAll, S_X4_becomeLike, S_X7_changed]
      by_cases h0 : σ 51 1 = 0
      · have hq : Q (some (.inl (-1000002))) σ := by rw [show 44 + 7 * Int.toNat 1 = 51 from rfl, if_pos h0] at hq; exact hq
        (repeat' (first | exact hq | apply And.intro | intro _)) <;> omega
      · have hq : ∀ τ, only σ τ (inP 7) → vC τ 7 = vC σ 51 → (coOk σ 51 → coOk τ 7) → Q (some (.inl 1)) (chgd (hset τ 38 0 0)) := by rw [show 44 + 7 * Int.toNat 1 = 51 from rfl, if_neg h0] at hq; exact hq
        (repeat' (first | exact isPc_51 | exact isPc_7 | exact hV | exact hq _ ‹_› ‹_› ‹_› | apply And.intro | intro _)) <;> omega
  · rw [if_pos hk] at hq
    refine hK (fun q => q == 12) 200 _ _ _ _ ?_
    simp only [↓wp, ↓stp, ilen, lnth, st1, st2, nolong, nohead, rnth, ↓gfX, ↓pfX, gfV, pfV, cpF, cpP, cndZ, ↓tgo, ↓tsw, ↓lsw, ↓ldI, ↓ldA, ↓ldL, ↓stI, ↓stA, ↓stL, ↓bin, ↓binD, ↓binL, ↓binDL, ↓una, ↓acV, ↓acK, ↓acpy, ↓inv, entL, nones, List.length_cons, List.length_nil, List.take, List.drop, List.reverse_cons, List.reverse_nil, List.nil_append, List.cons_append, Option.toList_some, Option.toList_none, Nat.reduceAdd, Nat.reduceSub, Nat.reduceLT, Nat.reduceEqDiff, Fin.isValue, aTL, aSZ, Int.toNat_natCast, hset_same, hset_o, hset_s, hset_row, ne_eq, Nat.reduceBEq, beq_self_eq_true, Fin.val_zero, Fin.val_one, fin0, fin1, fin2, fin3, Nat.le_refl, Nat.reduceLeDiff, Nat.zero_le, Int.reduceAdd, Int.reduceNeg, Int.reduceLE, Int.reduceLT, Int.reduceToNat, Int.reduceMul, Int.cast_ofNat_Int, Nat.reduceMod, ↓reduceIte, if_true, if_false, and_true, true_and, or_true, true_or, false_or, or_false, and_self, not_true_eq_false, not_false_eq_true, Bool.false_eq_true, reduceCtorEq, false_implies, true_implies, implies_true, and_false, false_and, dX7_restore_0, dX7_restore_1, dX7_restore_4, dX7_restore_5, dX7_restore_6, dX7_restore_9, dX7_restore_11, dX7_restore_12, dX7_restore_13, dX7_restore_16, dX7_restore_17, dX7_restore_18, dX7_restore_21, dX7_restore_24, dX7_restore_26, dX7_restore_27, dX7_restore_28, dX7_restore_31, dX7_restore_32, dX7_restore_35, dX7_restore_36, dX7_restore_37, dX7_restore_40, dX7_restore_41, dX7_restore_44, dX7_restore_47, dX7_restore_48, dX7_restore_51, dX7_restore_52, cpX7, mT_X7_restore, SHl_0, SHl_1, SHl_2, SHl_3, SHl_4, SHl_5, SHl_6, SHl_7, SHl_8, SHl_9, SHl_10, SHl_11, SHl_12, SHl_13, SHl_14, SHl_15, SHl_16, SHl_17, SHl_18, SHl_19, SHl_20, SHl_21, SHl_22, SHl_23, SHl_24, SHl_25, SHl_26, SHl_27, SHl_28, SHl_29, SHl_30, SHl_31, SHl_32, SHl_33, SHl_34, SHl_35, SHl_36, SHl_37, SHl_38, SHl_39, SHl_40, SHl_41, SHl_42, SHl_43, SHl_44, SHl_45, SHl_46, SHl_47, SHl_48, SHl_49, SHl_50, SHl_51, SHl_52, SHl_53, SHl_54, SHl_55, SHl_56, SHl_57, S_X0_forgetAll, S_X4_becomeLike, S_X7_changed]
    (repeat' (first | exact hq | apply And.intro | intro _)) <;> omega
