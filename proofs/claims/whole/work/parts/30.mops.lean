/-! ===== the reference: shift, count, place, inWindow, head, price, note, chord, as, ask ===== -/
def S_X8_shift : MSpec := fun a σ Q => match a with
  | [.inr (.inl 58), .inl t] => R32 t ∧ nowOk σ ∧ (if σ 64 1 = 0 then Q (some (.inl (-1000002))) σ else if ¬ (-6 ≤ t ∧ t ≤ 6) then Q (some (.inl (-1000001))) σ else if t = 0 ∨ ¬ (0 ≤ σ 64 0 + t ∧ σ 64 0 + t < 15) then Q (some (.inl (-1000002))) σ else ∀ τ, ntOk σ τ → ∀ ρ, only τ ρ (fun q => q = 64) → vM ρ 64 0 = shV (vM σ 64 0) t → Q (some (.inl (σ 64 0 + t))) ρ)
  | _ => False
theorem rc_X8_shift : ∀ a σ Q, S_X8_shift a σ Q → ∃ (p : Nat) (r : List AV), a = .inr (.inl p) :: r ∧ p < 76 ∧ (SH p).1 = 4 ∧ (SH p).2.1 = 7 := by
  intro a σ Q h
  unfold S_X8_shift at h
  split at h
  · exact ⟨58, _, rfl, by decide, rfl, rfl⟩
  · exact h.elim
def mT_X8_shift (i : Nat) : Option (Nat × Bool × MSpec) := match i with
  | 68 => some (3, false, S_X8_in)
  | 154 => some (2, false, S_X8_over)
  | 209 => some (1, true, S_X8_notes)
  | 215 => some (1, true, S_X8_isPiece)
  | _ => none
theorem mT_X8_shift_ok {l : Launch} {n : Nat} (hn : 2 ≤ n) : ∀ i e, mT_X8_shift i = some e → mV l (rmOf n) RX8 i e := by
  intro i e h
  unfold mT_X8_shift at h
  split at h
  · cases h; exact mvS (lv := 0) mw_X8_in (by omega) (by decide) (by decide +kernel) (Or.inl (gtm 831 (by decide +kernel) (by decide +kernel))) ok_X8_in
  · cases h; exact mvS (lv := 0) mw_X8_over (by omega) (by decide) (by decide +kernel) (Or.inl (gtm 952 (by decide +kernel) (by decide +kernel))) ok_X8_over
  · cases h; exact mvI (lv := 1) (ci := 7) (T := TX8) (N := 28) mw_X8_notes rfl (by omega) (by decide) (by decide +kernel) (gtm 928 (by decide +kernel) (by decide +kernel)) rc_X8_notes ok_X8_notes
  · cases h; exact mvI (lv := 0) (ci := 7) (T := TX8) (N := 28) mw_X8_isPiece rfl (by omega) (by decide) (by decide +kernel) (gtm 944 (by decide +kernel) (by decide +kernel)) rc_X8_isPiece ok_X8_isPiece
  · cases h
set_option maxRecDepth 100000 in
set_option maxHeartbeats 16000000 in
theorem ok_X8_shift : ∀ l n, 2 ≤ n → ∀ a σ Q, S_X8_shift a σ Q → AM l n yX8_shift cX8_shift 3 (some .int) a σ Q := by
  intro l n hn a σ Q hS
  unfold S_X8_shift at hS
  split at hS
  rotate_left
  · exact hS.elim
  rename_i t
  obtain ⟨⟨t1, t2⟩, ⟨hV, hA⟩, hq⟩ := hS
  obtain ⟨w0, w1, w2⟩ := vM_0 σ 64
  obtain ⟨o1, o2, o3, -, oc, on⟩ := id hV
  refine am_ofF 1 cpX8 mT_X8_shift (plainFor_of_name (by decide +kernel)) (rfl) (Nat.le_of_ble_eq_true rfl) (cpX8_ok) (mT_X8_shift_ok hn) (fun K hK => ?_)
  have main : ¬ σ 64 1 = 0 → (-6 ≤ t ∧ t ≤ 6) → ¬ t = 0 → (0 ≤ σ 64 0 + t ∧ σ 64 0 + t < 15) → ∀ τ, ntOk σ τ → K 64 [some (.inr (.inl 58)), some (.inl t), some (.inl 0)] [] (hset τ 64 0 (σ 64 0 + t)) := by
    intro b1 b2 b3 b4 τ hτ
    rw [if_neg b1, if_neg (by omega), if_neg (by omega)] at hq
    have h64 : τ 64 = σ 64 := hτ.1 64 (by decide)
    have loop : ∀ (d k : Nat), (k : Int) + d = σ 64 2 → ∀ ρ, only τ ρ (fun q => q = 64) → ρ 64 0 = σ 64 0 + t → (∀ j, 1 ≤ j → j < 53 → ρ 64 j = σ 64 j) → (∀ j : Nat, (j : Int) < σ 64 2 → ρ 64 (53 + j) = if j < k then (σ 64 (53 + j) + 7 * t) % 12 else σ 64 (53 + j)) → K 64 [some (.inr (.inl 58)), some (.inl t), some (.inl (k : Int))] [] ρ := by
      intro d
      induction d with
      | zero =>
        intro k hk ρ ho h0 h1 h2
        refine hK (fun q => q == 64) 60 _ _ _ _ ?_
        simp only [↓wp, ↓stp, ilen, lnth, st1, st2, nolong, nohead, rnth, ↓gfX, ↓pfX, gfV, pfV, cpF, cpP, cndZ, ↓tgo, ↓tsw, ↓lsw, ↓ldI, ↓ldA, ↓ldL, ↓stI, ↓stA, ↓stL, ↓bin, ↓binD, ↓binL, ↓binDL, ↓una, ↓acV, ↓acK, ↓acpy, ↓inv, entL, nones, List.length_cons, List.length_nil, List.take, List.drop, List.reverse_cons, List.reverse_nil, List.nil_append, List.cons_append, Option.toList_some, Option.toList_none, Nat.reduceAdd, Nat.reduceSub, Nat.reduceLT, Nat.reduceEqDiff, Fin.isValue, aTL, aSZ, Int.toNat_natCast, hset_same, hset_o, hset_s, hset_row, ne_eq, Nat.reduceBEq, beq_self_eq_true, Fin.val_zero, Fin.val_one, fin0, fin1, fin2, fin3, Nat.le_refl, Nat.reduceLeDiff, Nat.zero_le, Int.reduceAdd, Int.reduceNeg, Int.reduceLE, Int.reduceLT, Int.reduceToNat, Int.reduceMul, Int.cast_ofNat_Int, Nat.reduceMod, ↓reduceIte, if_true, if_false, and_true, true_and, or_true, true_or, false_or, or_false, and_self, not_true_eq_false, not_false_eq_true, Bool.false_eq_true, reduceCtorEq, false_implies, true_implies, implies_true, and_false, false_and, dX8_shift_0, dX8_shift_1, dX8_shift_4, dX8_shift_7, dX8_shift_9, dX8_shift_10, dX8_shift_11, dX8_shift_13, dX8_shift_15, dX8_shift_18, dX8_shift_21, dX8_shift_23, dX8_shift_24, dX8_shift_25, dX8_shift_28, dX8_shift_29, dX8_shift_32, dX8_shift_33, dX8_shift_34, dX8_shift_35, dX8_shift_36, dX8_shift_37, dX8_shift_39, dX8_shift_42, dX8_shift_45, dX8_shift_47, dX8_shift_48, dX8_shift_49, dX8_shift_52, dX8_shift_53, dX8_shift_56, dX8_shift_57, dX8_shift_58, dX8_shift_59, dX8_shift_60, dX8_shift_61, dX8_shift_62, dX8_shift_63, dX8_shift_64, dX8_shift_65, dX8_shift_66, dX8_shift_69, dX8_shift_70, dX8_shift_71, dX8_shift_74, dX8_shift_75, dX8_shift_78, dX8_shift_80, dX8_shift_81, dX8_shift_82, dX8_shift_83, dX8_shift_86, dX8_shift_88, dX8_shift_89, dX8_shift_90, dX8_shift_91, dX8_shift_93, dX8_shift_94, dX8_shift_95, dX8_shift_96, dX8_shift_98, dX8_shift_101, dX8_shift_102, dX8_shift_105, dX8_shift_108, dX8_shift_109, dX8_shift_112, dX8_shift_113, dX8_shift_114, cpX8, mT_X8_shift, SHl_58, SHl_59, SHl_60, SHl_61, SHl_62, SHl_63, SHl_64, SHl_65, SHl_66, SHl_67, SHl_68, SHl_69, SHl_70, SHl_71, SHl_72, SHl_73, SHl_74, SHl_75, S_X8_in, S_X8_isPiece, S_X8_notes, S_X8_over]
        rw [h1 2 (by omega) (by omega), h0]
        refine ⟨⟨by omega, by omega⟩, ⟨by omega, by omega⟩, fun _ => hq τ hτ ρ ho ?_, fun q => by omega⟩
        funext a c
        have g1 := h1 1 (by omega) (by omega)
        have g2 := h1 2 (by omega) (by omega)
        rcases a with _ | _ | _ | _ | _ | _ | _ | a <;> simp only [vM, shV, Nat.zero_add, Nat.reduceAdd, g1, g2]
        · by_cases e : c = 0
          · subst e
            simp
            exact h0
          · by_cases e2 : c < 3
            · simp [e, e2]
              exact h1 c (by omega) (by omega)
            · simp [e, e2]
        · simp
          split
          · exact h1 _ (by omega) (by omega)
          · rfl
        · simp
          split
          · exact h1 _ (by omega) (by omega)
          · rfl
        · simp
          split
          · exact h1 _ (by omega) (by omega)
          · rfl
        · simp
          split
          · exact h1 _ (by omega) (by omega)
          · rfl
        · simp
          split
          · exact h1 _ (by omega) (by omega)
          · rfl
        · by_cases e : (c : Int) < σ 64 2
          · simp [e]
            rw [h2 c e, if_pos (by omega)]
          · simp [e]
        · simp
      | succ d ih =>
        intro k hk ρ ho h0 h1 h2
        have on1 := on k (by omega)
        rw [vM_n (by omega)] at on1
        have g2 := h1 2 (by omega) (by omega)
        have g3 := h2 k (by omega)
        rw [if_neg (by omega)] at g3
        refine hK (fun q => q == 64) 60 _ _ _ _ ?_
        simp only [↓wp, ↓stp, ilen, lnth, st1, st2, nolong, nohead, rnth, ↓gfX, ↓pfX, gfV, pfV, cpF, cpP, cndZ, ↓tgo, ↓tsw, ↓lsw, ↓ldI, ↓ldA, ↓ldL, ↓stI, ↓stA, ↓stL, ↓bin, ↓binD, ↓binL, ↓binDL, ↓una, ↓acV, ↓acK, ↓acpy, ↓inv, entL, nones, List.length_cons, List.length_nil, List.take, List.drop, List.reverse_cons, List.reverse_nil, List.nil_append, List.cons_append, Option.toList_some, Option.toList_none, Nat.reduceAdd, Nat.reduceSub, Nat.reduceLT, Nat.reduceEqDiff, Fin.isValue, aTL, aSZ, Int.toNat_natCast, hset_same, hset_o, hset_s, hset_row, ne_eq, Nat.reduceBEq, beq_self_eq_true, Fin.val_zero, Fin.val_one, fin0, fin1, fin2, fin3, Nat.le_refl, Nat.reduceLeDiff, Nat.zero_le, Int.reduceAdd, Int.reduceNeg, Int.reduceLE, Int.reduceLT, Int.reduceToNat, Int.reduceMul, Int.cast_ofNat_Int, Nat.reduceMod, ↓reduceIte, if_true, if_false, and_true, true_and, or_true, true_or, false_or, or_false, and_self, not_true_eq_false, not_false_eq_true, Bool.false_eq_true, reduceCtorEq, false_implies, true_implies, implies_true, and_false, false_and, dX8_shift_0, dX8_shift_1, dX8_shift_4, dX8_shift_7, dX8_shift_9, dX8_shift_10, dX8_shift_11, dX8_shift_13, dX8_shift_15, dX8_shift_18, dX8_shift_21, dX8_shift_23, dX8_shift_24, dX8_shift_25, dX8_shift_28, dX8_shift_29, dX8_shift_32, dX8_shift_33, dX8_shift_34, dX8_shift_35, dX8_shift_36, dX8_shift_37, dX8_shift_39, dX8_shift_42, dX8_shift_45, dX8_shift_47, dX8_shift_48, dX8_shift_49, dX8_shift_52, dX8_shift_53, dX8_shift_56, dX8_shift_57, dX8_shift_58, dX8_shift_59, dX8_shift_60, dX8_shift_61, dX8_shift_62, dX8_shift_63, dX8_shift_64, dX8_shift_65, dX8_shift_66, dX8_shift_69, dX8_shift_70, dX8_shift_71, dX8_shift_74, dX8_shift_75, dX8_shift_78, dX8_shift_80, dX8_shift_81, dX8_shift_82, dX8_shift_83, dX8_shift_86, dX8_shift_88, dX8_shift_89, dX8_shift_90, dX8_shift_91, dX8_shift_93, dX8_shift_94, dX8_shift_95, dX8_shift_96, dX8_shift_98, dX8_shift_101, dX8_shift_102, dX8_shift_105, dX8_shift_108, dX8_shift_109, dX8_shift_112, dX8_shift_113, dX8_shift_114, cpX8, mT_X8_shift, SHl_58, SHl_59, SHl_60, SHl_61, SHl_62, SHl_63, SHl_64, SHl_65, SHl_66, SHl_67, SHl_68, SHl_69, SHl_70, SHl_71, SHl_72, SHl_73, SHl_74, SHl_75, S_X8_in, S_X8_isPiece, S_X8_notes, S_X8_over]
        rw [g2, show (53 + (k : Int)).toNat = 53 + k by omega, g3]
        refine ⟨⟨by omega, by omega⟩, ⟨by omega, by omega⟩, fun q => by omega, fun _ => ⟨by omega, by omega, ⟨by omega, by omega⟩, by omega, by omega, ih (k + 1) (by omega) _ (only_set ho rfl) ?_ ?_ ?_⟩⟩
        · rw [hset_s (by omega)]; exact h0
        · intro j j1 j2
          rw [hset_s (by omega)]; exact h1 j j1 j2
        · intro j hj
          by_cases e : j = k
          · subst e
            rw [hset_same, if_pos (by omega)]
          · rw [hset_s (by omega), h2 j hj]
            by_cases e2 : j < k
            · rw [if_pos e2, if_pos (by omega)]
            · rw [if_neg e2, if_neg (by omega)]
    refine loop (σ 64 2).toNat 0 (by omega) _ (only_set (fun q _ => rfl) rfl) hset_same (fun j j1 j2 => by rw [hset_s (by omega), h64]) (fun j hj => by rw [hset_s (by omega), h64, if_neg (by omega)])
  refine hK (fun q => q == 64) 100 _ _ _ _ ?_
  simp only [↓wp, ↓stp, ilen, lnth, st1, st2, nolong, nohead, rnth, ↓gfX, ↓pfX, gfV, pfV, cpF, cpP, cndZ, ↓tgo, ↓tsw, ↓lsw, ↓ldI, ↓ldA, ↓ldL, ↓stI, ↓stA, ↓stL, ↓bin, ↓binD, ↓binL, ↓binDL, ↓una, ↓acV, ↓acK, ↓acpy, ↓inv, entL, nones, List.length_cons, List.length_nil, List.take, List.drop, List.reverse_cons, List.reverse_nil, List.nil_append, List.cons_append, Option.toList_some, Option.toList_none, Nat.reduceAdd, Nat.reduceSub, Nat.reduceLT, Nat.reduceEqDiff, Fin.isValue, aTL, aSZ, Int.toNat_natCast, hset_same, hset_o, hset_s, hset_row, ne_eq, Nat.reduceBEq, beq_self_eq_true, Fin.val_zero, Fin.val_one, fin0, fin1, fin2, fin3, Nat.le_refl, Nat.reduceLeDiff, Nat.zero_le, Int.reduceAdd, Int.reduceNeg, Int.reduceLE, Int.reduceLT, Int.reduceToNat, Int.reduceMul, Int.cast_ofNat_Int, Nat.reduceMod, ↓reduceIte, if_true, if_false, and_true, true_and, or_true, true_or, false_or, or_false, and_self, not_true_eq_false, not_false_eq_true, Bool.false_eq_true, reduceCtorEq, false_implies, true_implies, implies_true, and_false, false_and, dX8_shift_0, dX8_shift_1, dX8_shift_4, dX8_shift_7, dX8_shift_9, dX8_shift_10, dX8_shift_11, dX8_shift_13, dX8_shift_15, dX8_shift_18, dX8_shift_21, dX8_shift_23, dX8_shift_24, dX8_shift_25, dX8_shift_28, dX8_shift_29, dX8_shift_32, dX8_shift_33, dX8_shift_34, dX8_shift_35, dX8_shift_36, dX8_shift_37, dX8_shift_39, dX8_shift_42, dX8_shift_45, dX8_shift_47, dX8_shift_48, dX8_shift_49, dX8_shift_52, dX8_shift_53, dX8_shift_56, dX8_shift_57, dX8_shift_58, dX8_shift_59, dX8_shift_60, dX8_shift_61, dX8_shift_62, dX8_shift_63, dX8_shift_64, dX8_shift_65, dX8_shift_66, dX8_shift_69, dX8_shift_70, dX8_shift_71, dX8_shift_74, dX8_shift_75, dX8_shift_78, dX8_shift_80, dX8_shift_81, dX8_shift_82, dX8_shift_83, dX8_shift_86, dX8_shift_88, dX8_shift_89, dX8_shift_90, dX8_shift_91, dX8_shift_93, dX8_shift_94, dX8_shift_95, dX8_shift_96, dX8_shift_98, dX8_shift_101, dX8_shift_102, dX8_shift_105, dX8_shift_108, dX8_shift_109, dX8_shift_112, dX8_shift_113, dX8_shift_114, cpX8, mT_X8_shift, SHl_58, SHl_59, SHl_60, SHl_61, SHl_62, SHl_63, SHl_64, SHl_65, SHl_66, SHl_67, SHl_68, SHl_69, SHl_70, SHl_71, SHl_72, SHl_73, SHl_74, SHl_75, S_X8_in, S_X8_isPiece, S_X8_notes, S_X8_over]
  have main' : ¬ σ 64 1 = 0 → (-6 ≤ t ∧ t ≤ 6) → ¬ t = 0 → (0 ≤ σ 64 0 + t ∧ σ 64 0 + t < 15) → ∀ τ, ntOk σ τ → K 64 [some (.inr (.inl 58)), some (.inl t), some (.inl 0)] [] (hset τ 64 0 (τ 64 0 + t)) := by
    intro b1 b2 b3 b4 τ hτ
    rw [hτ.1 64 (by decide)]
    exact main b1 b2 b3 b4 τ hτ
  (repeat' (first | apply And.intro | intro _)) <;> first | omega | (exact main' (by omega) (by omega) (by omega) (by omega) _ ‹_›) | (repeat (first | rw [if_pos (by omega)] at hq | rw [if_neg (by omega)] at hq)) <;> exact hq
def howJ (f : Nat → Int) : Nat → Int
  | 0 => 0
  | n + 1 => howJ f n + (if f n = -1000000 then 0 else 1)
def S_X8_count : MSpec := fun a σ Q => match a with
  | [.inr (.inl 58), .inl v] => R32 v ∧ (∀ r, r < 8 → R32 (σ 59 r)) ∧ Q (some (.inl (if v = 0 then howJ (σ 59) 8 else if v = 1 then σ 64 1 else if v = 2 then σ 64 2 else if v = 3 then σ 64 0 else if v = 4 then σ 58 17 else if v = 5 then σ 58 6 else -1000001))) σ
  | _ => False
theorem rc_X8_count : ∀ a σ Q, S_X8_count a σ Q → ∃ (p : Nat) (r : List AV), a = .inr (.inl p) :: r ∧ p < 76 ∧ (SH p).1 = 4 ∧ (SH p).2.1 = 7 := by
  intro a σ Q h
  unfold S_X8_count at h
  split at h
  · exact ⟨58, _, rfl, by decide, rfl, rfl⟩
  · exact h.elim
def mT_X8_count (i : Nat) : Option (Nat × Bool × MSpec) := match i with
  | 84 => some (2, true, S_X8_isMissing)
  | _ => none
theorem mT_X8_count_ok {l : Launch} {n : Nat} (hn : 1 ≤ n) : ∀ i e, mT_X8_count i = some e → mV l (rmOf n) RX8 i e := by
  intro i e h
  unfold mT_X8_count at h
  split at h
  · cases h; exact mvI (lv := 0) (ci := 7) (T := TX8) (N := 28) mw_X8_isMissing rfl (by omega) (by decide) (by decide +kernel) (gtm 848 (by decide +kernel) (by decide +kernel)) rc_X8_isMissing ok_X8_isMissing
  · cases h
set_option maxRecDepth 100000 in
set_option maxHeartbeats 16000000 in
theorem ok_X8_count : ∀ l n, 1 ≤ n → ∀ a σ Q, S_X8_count a σ Q → AM l n yX8_count cX8_count 4 (some .int) a σ Q := by
  intro l n hn a σ Q hS
  unfold S_X8_count at hS
  split at hS
  rotate_left
  · exact hS.elim
  rename_i v
  obtain ⟨⟨t1, t2⟩, hI, hq⟩ := hS
  refine am_ofF 1 cpX8 mT_X8_count (plainFor_of_name (by decide +kernel)) (rfl) (Nat.le_of_ble_eq_true rfl) (cpX8_ok) (mT_X8_count_ok hn) (fun K hK => ?_)
  have loop : v = 0 → ∀ (d k : Nat), k + d = 8 → K 42 [some (.inr (.inl 58)), some (.inl v), some (.inl (howJ (σ 59) k)), some (.inl (k : Int))] [] σ := by
    intro h0 d
    rw [if_pos h0] at hq
    induction d with
    | zero =>
      intro k hk
      refine hK (fun q => q == 42) 60 _ _ _ _ ?_
      simp only [↓wp, ↓stp, ilen, lnth, st1, st2, nolong, nohead, rnth, ↓gfX, ↓pfX, gfV, pfV, cpF, cpP, cndZ, ↓tgo, ↓tsw, ↓lsw, ↓ldI, ↓ldA, ↓ldL, ↓stI, ↓stA, ↓stL, ↓bin, ↓binD, ↓binL, ↓binDL, ↓una, ↓acV, ↓acK, ↓acpy, ↓inv, entL, nones, List.length_cons, List.length_nil, List.take, List.drop, List.reverse_cons, List.reverse_nil, List.nil_append, List.cons_append, Option.toList_some, Option.toList_none, Nat.reduceAdd, Nat.reduceSub, Nat.reduceLT, Nat.reduceEqDiff, Fin.isValue, aTL, aSZ, Int.toNat_natCast, hset_same, hset_o, hset_s, hset_row, ne_eq, Nat.reduceBEq, beq_self_eq_true, Fin.val_zero, Fin.val_one, fin0, fin1, fin2, fin3, Nat.le_refl, Nat.reduceLeDiff, Nat.zero_le, Int.reduceAdd, Int.reduceNeg, Int.reduceLE, Int.reduceLT, Int.reduceToNat, Int.reduceMul, Int.cast_ofNat_Int, Nat.reduceMod, ↓reduceIte, if_true, if_false, and_true, true_and, or_true, true_or, false_or, or_false, and_self, not_true_eq_false, not_false_eq_true, Bool.false_eq_true, reduceCtorEq, false_implies, true_implies, implies_true, and_false, false_and, dX8_count_0, dX8_count_1, dX8_count_2, dX8_count_3, dX8_count_40, dX8_count_41, dX8_count_42, dX8_count_43, dX8_count_45, dX8_count_48, dX8_count_49, dX8_count_50, dX8_count_51, dX8_count_54, dX8_count_57, dX8_count_58, dX8_count_61, dX8_count_62, dX8_count_63, dX8_count_64, dX8_count_67, dX8_count_70, dX8_count_71, dX8_count_72, dX8_count_73, dX8_count_76, dX8_count_77, dX8_count_78, dX8_count_79, dX8_count_80, dX8_count_83, dX8_count_84, dX8_count_85, dX8_count_86, dX8_count_87, dX8_count_90, dX8_count_91, dX8_count_92, dX8_count_93, dX8_count_94, dX8_count_97, dX8_count_98, dX8_count_99, dX8_count_102, dX8_count_103, dX8_count_105, cpX8, mT_X8_count, SHl_58, SHl_59, SHl_60, SHl_61, SHl_62, SHl_63, SHl_64, SHl_65, SHl_66, SHl_67, SHl_68, SHl_69, SHl_70, SHl_71, SHl_72, SHl_73, SHl_74, SHl_75, S_X8_isMissing]
      rw [show 8 = k by omega] at hq
      exact ⟨⟨by omega, by omega⟩, ⟨by omega, by omega⟩, fun _ => hq, fun q => by omega⟩
    | succ d ih =>
      intro k hk
      have hx := ih (k + 1) (by omega)
      unfold howJ at hx
      refine hK (fun q => q == 42) 60 _ _ _ _ ?_
      simp only [↓wp, ↓stp, ilen, lnth, st1, st2, nolong, nohead, rnth, ↓gfX, ↓pfX, gfV, pfV, cpF, cpP, cndZ, ↓tgo, ↓tsw, ↓lsw, ↓ldI, ↓ldA, ↓ldL, ↓stI, ↓stA, ↓stL, ↓bin, ↓binD, ↓binL, ↓binDL, ↓una, ↓acV, ↓acK, ↓acpy, ↓inv, entL, nones, List.length_cons, List.length_nil, List.take, List.drop, List.reverse_cons, List.reverse_nil, List.nil_append, List.cons_append, Option.toList_some, Option.toList_none, Nat.reduceAdd, Nat.reduceSub, Nat.reduceLT, Nat.reduceEqDiff, Fin.isValue, aTL, aSZ, Int.toNat_natCast, hset_same, hset_o, hset_s, hset_row, ne_eq, Nat.reduceBEq, beq_self_eq_true, Fin.val_zero, Fin.val_one, fin0, fin1, fin2, fin3, Nat.le_refl, Nat.reduceLeDiff, Nat.zero_le, Int.reduceAdd, Int.reduceNeg, Int.reduceLE, Int.reduceLT, Int.reduceToNat, Int.reduceMul, Int.cast_ofNat_Int, Nat.reduceMod, ↓reduceIte, if_true, if_false, and_true, true_and, or_true, true_or, false_or, or_false, and_self, not_true_eq_false, not_false_eq_true, Bool.false_eq_true, reduceCtorEq, false_implies, true_implies, implies_true, and_false, false_and, dX8_count_0, dX8_count_1, dX8_count_2, dX8_count_3, dX8_count_40, dX8_count_41, dX8_count_42, dX8_count_43, dX8_count_45, dX8_count_48, dX8_count_49, dX8_count_50, dX8_count_51, dX8_count_54, dX8_count_57, dX8_count_58, dX8_count_61, dX8_count_62, dX8_count_63, dX8_count_64, dX8_count_67, dX8_count_70, dX8_count_71, dX8_count_72, dX8_count_73, dX8_count_76, dX8_count_77, dX8_count_78, dX8_count_79, dX8_count_80, dX8_count_83, dX8_count_84, dX8_count_85, dX8_count_86, dX8_count_87, dX8_count_90, dX8_count_91, dX8_count_92, dX8_count_93, dX8_count_94, dX8_count_97, dX8_count_98, dX8_count_99, dX8_count_102, dX8_count_103, dX8_count_105, cpX8, mT_X8_count, SHl_58, SHl_59, SHl_60, SHl_61, SHl_62, SHl_63, SHl_64, SHl_65, SHl_66, SHl_67, SHl_68, SHl_69, SHl_70, SHl_71, SHl_72, SHl_73, SHl_74, SHl_75, S_X8_isMissing]
      obtain ⟨r1, r2⟩ := hI k (by omega)
      by_cases e : σ 59 k = -1000000
      · rw [if_pos e] at hx
        (repeat' (first | apply And.intro | intro _)) <;> first | omega | exact hx
      · rw [if_neg e] at hx
        (repeat' (first | apply And.intro | intro _)) <;> first | omega | exact hx
  refine hK (fun q => q == 42) 60 _ _ _ _ ?_
  simp only [↓wp, ↓stp, ilen, lnth, st1, st2, nolong, nohead, rnth, ↓gfX, ↓pfX, gfV, pfV, cpF, cpP, cndZ, ↓tgo, ↓tsw, ↓lsw, ↓ldI, ↓ldA, ↓ldL, ↓stI, ↓stA, ↓stL, ↓bin, ↓binD, ↓binL, ↓binDL, ↓una, ↓acV, ↓acK, ↓acpy, ↓inv, entL, nones, List.length_cons, List.length_nil, List.take, List.drop, List.reverse_cons, List.reverse_nil, List.nil_append, List.cons_append, Option.toList_some, Option.toList_none, Nat.reduceAdd, Nat.reduceSub, Nat.reduceLT, Nat.reduceEqDiff, Fin.isValue, aTL, aSZ, Int.toNat_natCast, hset_same, hset_o, hset_s, hset_row, ne_eq, Nat.reduceBEq, beq_self_eq_true, Fin.val_zero, Fin.val_one, fin0, fin1, fin2, fin3, Nat.le_refl, Nat.reduceLeDiff, Nat.zero_le, Int.reduceAdd, Int.reduceNeg, Int.reduceLE, Int.reduceLT, Int.reduceToNat, Int.reduceMul, Int.cast_ofNat_Int, Nat.reduceMod, ↓reduceIte, if_true, if_false, and_true, true_and, or_true, true_or, false_or, or_false, and_self, not_true_eq_false, not_false_eq_true, Bool.false_eq_true, reduceCtorEq, false_implies, true_implies, implies_true, and_false, false_and, dX8_count_0, dX8_count_1, dX8_count_2, dX8_count_3, dX8_count_40, dX8_count_41, dX8_count_42, dX8_count_43, dX8_count_45, dX8_count_48, dX8_count_49, dX8_count_50, dX8_count_51, dX8_count_54, dX8_count_57, dX8_count_58, dX8_count_61, dX8_count_62, dX8_count_63, dX8_count_64, dX8_count_67, dX8_count_70, dX8_count_71, dX8_count_72, dX8_count_73, dX8_count_76, dX8_count_77, dX8_count_78, dX8_count_79, dX8_count_80, dX8_count_83, dX8_count_84, dX8_count_85, dX8_count_86, dX8_count_87, dX8_count_90, dX8_count_91, dX8_count_92, dX8_count_93, dX8_count_94, dX8_count_97, dX8_count_98, dX8_count_99, dX8_count_102, dX8_count_103, dX8_count_105, cpX8, mT_X8_count, SHl_58, SHl_59, SHl_60, SHl_61, SHl_62, SHl_63, SHl_64, SHl_65, SHl_66, SHl_67, SHl_68, SHl_69, SHl_70, SHl_71, SHl_72, SHl_73, SHl_74, SHl_75, S_X8_isMissing]
  (repeat' (first | apply And.intro | intro _)) <;> first | omega | (exact loop (by omega) 8 0 (by omega)) | (repeat (first | rw [if_pos (by omega)] at hq | rw [if_neg (by omega)] at hq)) <;> exact hq
def S_X8_place : MSpec := fun a σ Q => match a with
  | [.inr (.inl 58), .inl p, .inl w] => R32 p ∧ R32 w ∧ Q (some (.inl (if ¬ (-15 ≤ p ∧ p ≤ 19) then -1000001 else if w = 0 then (p + 1) % 7 else if w = 1 then (p + 1) / 7 else if w = 2 then 7 * p % 12 else -1000001))) σ
  | _ => False
theorem rc_X8_place : ∀ a σ Q, S_X8_place a σ Q → ∃ (p : Nat) (r : List AV), a = .inr (.inl p) :: r ∧ p < 76 ∧ (SH p).1 = 4 ∧ (SH p).2.1 = 7 := by
  intro a σ Q h
  unfold S_X8_place at h
  split at h
  · exact ⟨58, _, rfl, by decide, rfl, rfl⟩
  · exact h.elim
def mT_X8_place (i : Nat) : Option (Nat × Bool × MSpec) := match i with
  | 68 => some (3, false, S_X8_in)
  | 157 => some (1, false, S_X8_letterOf)
  | 160 => some (1, false, S_X8_keyOf)
  | 166 => some (1, false, S_X8_alterOf)
  | _ => none
theorem mT_X8_place_ok {l : Launch} {n : Nat} (hn : 3 ≤ n) : ∀ i e, mT_X8_place i = some e → mV l (rmOf n) RX8 i e := by
  intro i e h
  unfold mT_X8_place at h
  split at h
  · cases h; exact mvS (lv := 0) mw_X8_in (by omega) (by decide) (by decide +kernel) (Or.inl (gtm 831 (by decide +kernel) (by decide +kernel))) ok_X8_in
  · cases h; exact mvS (lv := 1) mw_X8_letterOf (by omega) (by decide) (by decide +kernel) (Or.inl (gtm 963 (by decide +kernel) (by decide +kernel))) ok_X8_letterOf
  · cases h; exact mvS (lv := 1) mw_X8_keyOf (by omega) (by decide) (by decide +kernel) (Or.inl (gtm 969 (by decide +kernel) (by decide +kernel))) ok_X8_keyOf
  · cases h; exact mvS (lv := 2) mw_X8_alterOf (by omega) (by decide) (by decide +kernel) (Or.inl (gtm 966 (by decide +kernel) (by decide +kernel))) ok_X8_alterOf
  · cases h
set_option maxRecDepth 100000 in
set_option maxHeartbeats 4000000 in
theorem ok_X8_place : ∀ l n, 3 ≤ n → ∀ a σ Q, S_X8_place a σ Q → AM l n yX8_place cX8_place 3 (some .int) a σ Q := by
  intro l n hn a σ Q hS
  unfold S_X8_place at hS
  split at hS
  rotate_left
  · exact hS.elim
  rename_i p w
  obtain ⟨⟨c1, c2⟩, ⟨w1, w2⟩, hq⟩ := hS
  refine am_ofF 1 cpX8 mT_X8_place (plainFor_of_name (by decide +kernel)) (rfl) (Nat.le_of_ble_eq_true rfl) (cpX8_ok) (mT_X8_place_ok hn) (fun K hK => ?_)
  refine hK (fun _ => false) 200 _ _ _ _ ?_
  simp only [↓wp, ↓stp, ilen, lnth, st1, st2, nolong, nohead, rnth, ↓gfX, ↓pfX, gfV, pfV, cpF, cpP, cndZ, ↓tgo, ↓tsw, ↓lsw, ↓ldI, ↓ldA, ↓ldL, ↓stI, ↓stA, ↓stL, ↓bin, ↓binD, ↓binL, ↓binDL, ↓una, ↓acV, ↓acK, ↓acpy, ↓inv, entL, nones, List.length_cons, List.length_nil, List.take, List.drop, List.reverse_cons, List.reverse_nil, List.nil_append, List.cons_append, Option.toList_some, Option.toList_none, Nat.reduceAdd, Nat.reduceSub, Nat.reduceLT, Nat.reduceEqDiff, Fin.isValue, aTL, aSZ, Int.toNat_natCast, hset_same, hset_o, hset_s, hset_row, ne_eq, Nat.reduceBEq, beq_self_eq_true, Fin.val_zero, Fin.val_one, fin0, fin1, fin2, fin3, Nat.le_refl, Nat.reduceLeDiff, Nat.zero_le, Int.reduceAdd, Int.reduceNeg, Int.reduceLE, Int.reduceLT, Int.reduceToNat, Int.reduceMul, Int.cast_ofNat_Int, Nat.reduceMod, ↓reduceIte, if_true, if_false, and_true, true_and, or_true, true_or, false_or, or_false, and_self, not_true_eq_false, not_false_eq_true, Bool.false_eq_true, reduceCtorEq, false_implies, true_implies, implies_true, and_false, false_and, dX8_place_0, dX8_place_1, dX8_place_3, dX8_place_5, dX8_place_8, dX8_place_11, dX8_place_13, dX8_place_14, dX8_place_15, dX8_place_18, dX8_place_19, dX8_place_22, dX8_place_25, dX8_place_26, dX8_place_27, dX8_place_30, dX8_place_31, dX8_place_34, dX8_place_37, dX8_place_38, dX8_place_39, dX8_place_42, dX8_place_43, dX8_place_46, dX8_place_49, dX8_place_51, cpX8, mT_X8_place, SHl_58, SHl_59, SHl_60, SHl_61, SHl_62, SHl_63, SHl_64, SHl_65, SHl_66, SHl_67, SHl_68, SHl_69, SHl_70, SHl_71, SHl_72, SHl_73, SHl_74, SHl_75, S_X8_alterOf, S_X8_in, S_X8_keyOf, S_X8_letterOf]
  unfold letZ altZ
  (repeat' (first | apply And.intro | intro _)) <;> first | omega | exact hq | (rw [if_pos (by omega)] at hq; exact hq) | (rw [if_neg (by omega)] at hq; exact hq) | (repeat (first | rw [if_pos (by omega)] at hq | rw [if_neg (by omega)] at hq)) <;> exact hq | assumption | exact R32_of _
def S_X8_inWindow : MSpec := fun a σ Q => match a with
  | [.inr (.inl 58), .inl w, .inl k] => R32 w ∧ R32 k ∧ Q (some (.inl (if (-15 ≤ w ∧ w ≤ 8) ∧ (0 ≤ k ∧ k < 12) then w + (7 * k - w) % 12 else -1000001))) σ
  | _ => False
theorem rc_X8_inWindow : ∀ a σ Q, S_X8_inWindow a σ Q → ∃ (p : Nat) (r : List AV), a = .inr (.inl p) :: r ∧ p < 76 ∧ (SH p).1 = 4 ∧ (SH p).2.1 = 7 := by
  intro a σ Q h
  unfold S_X8_inWindow at h
  split at h
  · exact ⟨58, _, rfl, by decide, rfl, rfl⟩
  · exact h.elim
def mT_X8_inWindow (i : Nat) : Option (Nat × Bool × MSpec) := match i with
  | 68 => some (3, false, S_X8_in)
  | 163 => some (2, false, S_X8_nameOf)
  | 218 => some (1, false, S_X8_isWindow)
  | _ => none
theorem mT_X8_inWindow_ok {l : Launch} {n : Nat} (hn : 3 ≤ n) : ∀ i e, mT_X8_inWindow i = some e → mV l (rmOf n) RX8 i e := by
  intro i e h
  unfold mT_X8_inWindow at h
  split at h
  · cases h; exact mvS (lv := 0) mw_X8_in (by omega) (by decide) (by decide +kernel) (Or.inl (gtm 831 (by decide +kernel) (by decide +kernel))) ok_X8_in
  · cases h; exact mvS (lv := 2) mw_X8_nameOf (by omega) (by decide) (by decide +kernel) (Or.inl (gtm 979 (by decide +kernel) (by decide +kernel))) ok_X8_nameOf
  · cases h; exact mvS (lv := 1) mw_X8_isWindow (by omega) (by decide) (by decide +kernel) (Or.inl (gtm 976 (by decide +kernel) (by decide +kernel))) ok_X8_isWindow
  · cases h
set_option maxRecDepth 100000 in
set_option maxHeartbeats 4000000 in
theorem ok_X8_inWindow : ∀ l n, 3 ≤ n → ∀ a σ Q, S_X8_inWindow a σ Q → AM l n yX8_inWindow cX8_inWindow 3 (some .int) a σ Q := by
  intro l n hn a σ Q hS
  unfold S_X8_inWindow at hS
  split at hS
  rotate_left
  · exact hS.elim
  rename_i p w
  obtain ⟨⟨c1, c2⟩, ⟨w1, w2⟩, hq⟩ := hS
  refine am_ofF 1 cpX8 mT_X8_inWindow (plainFor_of_name (by decide +kernel)) (rfl) (Nat.le_of_ble_eq_true rfl) (cpX8_ok) (mT_X8_inWindow_ok hn) (fun K hK => ?_)
  refine hK (fun _ => false) 200 _ _ _ _ ?_
  simp only [↓wp, ↓stp, ilen, lnth, st1, st2, nolong, nohead, rnth, ↓gfX, ↓pfX, gfV, pfV, cpF, cpP, cndZ, ↓tgo, ↓tsw, ↓lsw, ↓ldI, ↓ldA, ↓ldL, ↓stI, ↓stA, ↓stL, ↓bin, ↓binD, ↓binL, ↓binDL, ↓una, ↓acV, ↓acK, ↓acpy, ↓inv, entL, nones, List.length_cons, List.length_nil, List.take, List.drop, List.reverse_cons, List.reverse_nil, List.nil_append, List.cons_append, Option.toList_some, Option.toList_none, Nat.reduceAdd, Nat.reduceSub, Nat.reduceLT, Nat.reduceEqDiff, Fin.isValue, aTL, aSZ, Int.toNat_natCast, hset_same, hset_o, hset_s, hset_row, ne_eq, Nat.reduceBEq, beq_self_eq_true, Fin.val_zero, Fin.val_one, fin0, fin1, fin2, fin3, Nat.le_refl, Nat.reduceLeDiff, Nat.zero_le, Int.reduceAdd, Int.reduceNeg, Int.reduceLE, Int.reduceLT, Int.reduceToNat, Int.reduceMul, Int.cast_ofNat_Int, Nat.reduceMod, ↓reduceIte, if_true, if_false, and_true, true_and, or_true, true_or, false_or, or_false, and_self, not_true_eq_false, not_false_eq_true, Bool.false_eq_true, reduceCtorEq, false_implies, true_implies, implies_true, and_false, false_and, dX8_inWindow_0, dX8_inWindow_1, dX8_inWindow_4, dX8_inWindow_7, dX8_inWindow_8, dX8_inWindow_9, dX8_inWindow_11, dX8_inWindow_14, dX8_inWindow_17, dX8_inWindow_18, dX8_inWindow_19, dX8_inWindow_22, dX8_inWindow_25, dX8_inWindow_27, cpX8, mT_X8_inWindow, SHl_58, SHl_59, SHl_60, SHl_61, SHl_62, SHl_63, SHl_64, SHl_65, SHl_66, SHl_67, SHl_68, SHl_69, SHl_70, SHl_71, SHl_72, SHl_73, SHl_74, SHl_75, S_X8_in, S_X8_isWindow, S_X8_nameOf]
  unfold namZ
  (repeat' (first | apply And.intro | intro _)) <;> first | omega | exact hq | (rw [if_pos (by omega)] at hq; exact hq) | (rw [if_neg (by omega)] at hq; exact hq) | (repeat (first | rw [if_pos (by omega)] at hq | rw [if_neg (by omega)] at hq)) <;> exact hq | assumption | exact R32_of _
def S_X8_head : MSpec := fun a σ Q => match a with
  | [.inr (.inl 58), .inl t] => R32 t ∧ (0 ≤ σ 64 1 ∧ σ 64 1 ≤ 10) ∧ (0 ≤ σ 64 0 ∧ σ 64 0 ≤ 14) ∧ Q (some (.inl (if σ 64 1 = 0 ∨ ¬ (0 ≤ t ∧ t < 7) then -1000001 else headV (σ 64 0) t))) σ
  | _ => False
theorem rc_X8_head : ∀ a σ Q, S_X8_head a σ Q → ∃ (p : Nat) (r : List AV), a = .inr (.inl p) :: r ∧ p < 76 ∧ (SH p).1 = 4 ∧ (SH p).2.1 = 7 := by
  intro a σ Q h
  unfold S_X8_head at h
  split at h
  · exact ⟨58, _, rfl, by decide, rfl, rfl⟩
  · exact h.elim
def mT_X8_head (i : Nat) : Option (Nat × Bool × MSpec) := match i with
  | 68 => some (3, false, S_X8_in)
  | 169 => some (2, false, S_X8_headOf)
  | 215 => some (1, true, S_X8_isPiece)
  | _ => none
theorem mT_X8_head_ok {l : Launch} {n : Nat} (hn : 1 ≤ n) : ∀ i e, mT_X8_head i = some e → mV l (rmOf n) RX8 i e := by
  intro i e h
  unfold mT_X8_head at h
  split at h
  · cases h; exact mvS (lv := 0) mw_X8_in (by omega) (by decide) (by decide +kernel) (Or.inl (gtm 831 (by decide +kernel) (by decide +kernel))) ok_X8_in
  · cases h; exact mvS (lv := 0) mw_X8_headOf (by omega) (by decide) (by decide +kernel) (Or.inl (gtm 986 (by decide +kernel) (by decide +kernel))) ok_X8_headOf
  · cases h; exact mvI (lv := 0) (ci := 7) (T := TX8) (N := 28) mw_X8_isPiece rfl (by omega) (by decide) (by decide +kernel) (gtm 944 (by decide +kernel) (by decide +kernel)) rc_X8_isPiece ok_X8_isPiece
  · cases h
set_option maxRecDepth 100000 in
set_option maxHeartbeats 4000000 in
theorem ok_X8_head : ∀ l n, 1 ≤ n → ∀ a σ Q, S_X8_head a σ Q → AM l n yX8_head cX8_head 2 (some .int) a σ Q := by
  intro l n hn a σ Q hS
  unfold S_X8_head at hS
  split at hS
  rotate_left
  · exact hS.elim
  rename_i t
  obtain ⟨⟨c1, c2⟩, h1, h2, hq⟩ := hS
  refine am_ofF 1 cpX8 mT_X8_head (plainFor_of_name (by decide +kernel)) (rfl) (Nat.le_of_ble_eq_true rfl) (cpX8_ok) (mT_X8_head_ok hn) (fun K hK => ?_)
  refine hK (fun _ => false) 200 _ _ _ _ ?_
  simp only [↓wp, ↓stp, ilen, lnth, st1, st2, nolong, nohead, rnth, ↓gfX, ↓pfX, gfV, pfV, cpF, cpP, cndZ, ↓tgo, ↓tsw, ↓lsw, ↓ldI, ↓ldA, ↓ldL, ↓stI, ↓stA, ↓stL, ↓bin, ↓binD, ↓binL, ↓binDL, ↓una, ↓acV, ↓acK, ↓acpy, ↓inv, entL, nones, List.length_cons, List.length_nil, List.take, List.drop, List.reverse_cons, List.reverse_nil, List.nil_append, List.cons_append, Option.toList_some, Option.toList_none, Nat.reduceAdd, Nat.reduceSub, Nat.reduceLT, Nat.reduceEqDiff, Fin.isValue, aTL, aSZ, Int.toNat_natCast, hset_same, hset_o, hset_s, hset_row, ne_eq, Nat.reduceBEq, beq_self_eq_true, Fin.val_zero, Fin.val_one, fin0, fin1, fin2, fin3, Nat.le_refl, Nat.reduceLeDiff, Nat.zero_le, Int.reduceAdd, Int.reduceNeg, Int.reduceLE, Int.reduceLT, Int.reduceToNat, Int.reduceMul, Int.cast_ofNat_Int, Nat.reduceMod, ↓reduceIte, if_true, if_false, and_true, true_and, or_true, true_or, false_or, or_false, and_self, not_true_eq_false, not_false_eq_true, Bool.false_eq_true, reduceCtorEq, false_implies, true_implies, implies_true, and_false, false_and, dX8_head_0, dX8_head_1, dX8_head_4, dX8_head_7, dX8_head_8, dX8_head_9, dX8_head_11, dX8_head_14, dX8_head_17, dX8_head_18, dX8_head_21, dX8_head_22, dX8_head_25, dX8_head_28, dX8_head_30, cpX8, mT_X8_head, SHl_58, SHl_59, SHl_60, SHl_61, SHl_62, SHl_63, SHl_64, SHl_65, SHl_66, SHl_67, SHl_68, SHl_69, SHl_70, SHl_71, SHl_72, SHl_73, SHl_74, SHl_75, S_X8_headOf, S_X8_in, S_X8_isPiece]
  (repeat' (first | exact isW_64 | apply And.intro | intro _)) <;> first | omega | (repeat (first | rw [if_pos (by omega)] at hq | rw [if_neg (by omega)] at hq)) <;> exact hq
def S_X8_price : MSpec := fun a σ Q => match a with
  | [.inr (.inl 58), .inl c, .inl x] => R32 c ∧ R32 x ∧ okV (vM σ 64 0) ∧ Q (some (.inl (if (0 ≤ c ∧ c < σ 64 1) ∧ (-15 ≤ x ∧ x ≤ 8) then pV (vM σ 64 0) c.toNat x else -1000001))) σ
  | _ => False
theorem rc_X8_price : ∀ a σ Q, S_X8_price a σ Q → ∃ (p : Nat) (r : List AV), a = .inr (.inl p) :: r ∧ p < 76 ∧ (SH p).1 = 4 ∧ (SH p).2.1 = 7 := by
  intro a σ Q h
  unfold S_X8_price at h
  split at h
  · exact ⟨58, _, rfl, by decide, rfl, rfl⟩
  · exact h.elim
def mT_X8_price (i : Nat) : Option (Nat × Bool × MSpec) := match i with
  | 192 => some (3, false, S_X8_priceOf)
  | 212 => some (2, true, S_X8_isChord)
  | 218 => some (1, false, S_X8_isWindow)
  | _ => none
theorem mT_X8_price_ok {l : Launch} {n : Nat} (hn : 5 ≤ n) : ∀ i e, mT_X8_price i = some e → mV l (rmOf n) RX8 i e := by
  intro i e h
  unfold mT_X8_price at h
  split at h
  · cases h; exact mvS (lv := 4) mw_X8_priceOf (by omega) (by decide) (by decide +kernel) (Or.inl (gtm 1019 (by decide +kernel) (by decide +kernel))) ok_X8_priceOf
  · cases h; exact mvI (lv := 1) (ci := 7) (T := TX8) (N := 28) mw_X8_isChord rfl (by omega) (by decide) (by decide +kernel) (gtm 936 (by decide +kernel) (by decide +kernel)) rc_X8_isChord ok_X8_isChord
  · cases h; exact mvS (lv := 1) mw_X8_isWindow (by omega) (by decide) (by decide +kernel) (Or.inl (gtm 976 (by decide +kernel) (by decide +kernel))) ok_X8_isWindow
  · cases h
set_option maxRecDepth 100000 in
set_option maxHeartbeats 4000000 in
theorem ok_X8_price : ∀ l n, 5 ≤ n → ∀ a σ Q, S_X8_price a σ Q → AM l n yX8_price cX8_price 3 (some .int) a σ Q := by
  intro l n hn a σ Q hS
  unfold S_X8_price at hS
  split at hS
  rotate_left
  · exact hS.elim
  rename_i c x
  obtain ⟨⟨c1, c2⟩, ⟨x1, x2⟩, hV, hq⟩ := hS
  refine am_ofF 1 cpX8 mT_X8_price (plainFor_of_name (by decide +kernel)) (rfl) (Nat.le_of_ble_eq_true rfl) (cpX8_ok) (mT_X8_price_ok hn) (fun K hK => ?_)
  refine hK (fun _ => false) 200 _ _ _ _ ?_
  simp only [↓wp, ↓stp, ilen, lnth, st1, st2, nolong, nohead, rnth, ↓gfX, ↓pfX, gfV, pfV, cpF, cpP, cndZ, ↓tgo, ↓tsw, ↓lsw, ↓ldI, ↓ldA, ↓ldL, ↓stI, ↓stA, ↓stL, ↓bin, ↓binD, ↓binL, ↓binDL, ↓una, ↓acV, ↓acK, ↓acpy, ↓inv, entL, nones, List.length_cons, List.length_nil, List.take, List.drop, List.reverse_cons, List.reverse_nil, List.nil_append, List.cons_append, Option.toList_some, Option.toList_none, Nat.reduceAdd, Nat.reduceSub, Nat.reduceLT, Nat.reduceEqDiff, Fin.isValue, aTL, aSZ, Int.toNat_natCast, hset_same, hset_o, hset_s, hset_row, ne_eq, Nat.reduceBEq, beq_self_eq_true, Fin.val_zero, Fin.val_one, fin0, fin1, fin2, fin3, Nat.le_refl, Nat.reduceLeDiff, Nat.zero_le, Int.reduceAdd, Int.reduceNeg, Int.reduceLE, Int.reduceLT, Int.reduceToNat, Int.reduceMul, Int.cast_ofNat_Int, Nat.reduceMod, ↓reduceIte, if_true, if_false, and_true, true_and, or_true, true_or, false_or, or_false, and_self, not_true_eq_false, not_false_eq_true, Bool.false_eq_true, reduceCtorEq, false_implies, true_implies, implies_true, and_false, false_and, dX8_price_0, dX8_price_1, dX8_price_2, dX8_price_5, dX8_price_8, dX8_price_9, dX8_price_12, dX8_price_15, dX8_price_16, dX8_price_19, dX8_price_20, dX8_price_21, dX8_price_24, dX8_price_27, dX8_price_29, cpX8, mT_X8_price, SHl_58, SHl_59, SHl_60, SHl_61, SHl_62, SHl_63, SHl_64, SHl_65, SHl_66, SHl_67, SHl_68, SHl_69, SHl_70, SHl_71, SHl_72, SHl_73, SHl_74, SHl_75, S_X8_isChord, S_X8_isWindow, S_X8_priceOf]
  obtain ⟨w0, w1, w2⟩ := vM_0 σ 64
  have o2 := hV.2.1
  (repeat' (first | exact isW_64 | exact hV | apply And.intro | intro _)) <;> first | omega | (repeat (first | rw [if_pos (by omega)] at hq | rw [if_neg (by omega)] at hq)) <;> exact hq
/-- what is told of note j of chord c -/
def ntV (V : HP) (c j : Nat) (w : Int) : Int := if w = 2 then plV V c j else if w = 3 then letZ (plV V c j) else if w = 4 then altZ (plV V c j) else prV V c j
def S_X8_note : MSpec := fun a σ Q => match a with
  | [.inr (.inl 58), .inl k, .inl w] => R32 k ∧ R32 w ∧ okV (vM σ 64 0) ∧ (if ¬ (0 ≤ k ∧ k < σ 64 2) ∨ ¬ (0 ≤ w ∧ w ≤ 5) then Q (some (.inl (-1000001))) σ else ∃ c j : Nat, c < ncV (vM σ 64 0) ∧ (j : Int) < vM σ 64 0 5 c ∧ k = vM σ 64 0 4 c + j ∧ (if w = 0 then Q (some (.inl (vM σ 64 0 6 k.toNat))) σ else if w = 1 then Q (some (.inl (c : Int))) σ else ∀ τ, prOk σ τ (vM σ 64 0) → Q (some (.inl (ntV (vM σ 64 0) c j w))) τ))
  | _ => False
theorem rc_X8_note : ∀ a σ Q, S_X8_note a σ Q → ∃ (p : Nat) (r : List AV), a = .inr (.inl p) :: r ∧ p < 76 ∧ (SH p).1 = 4 ∧ (SH p).2.1 = 7 := by
  intro a σ Q h
  unfold S_X8_note at h
  split at h
  · exact ⟨58, _, rfl, by decide, rfl, rfl⟩
  · exact h.elim
def mT_X8_note (i : Nat) : Option (Nat × Bool × MSpec) := match i with
  | 68 => some (3, false, S_X8_in)
  | 157 => some (1, false, S_X8_letterOf)
  | 163 => some (2, false, S_X8_nameOf)
  | 166 => some (1, false, S_X8_alterOf)
  | 205 => some (2, true, S_X8_isNote)
  | 221 => some (2, true, S_X8_chordOf)
  | 224 => some (2, true, S_X8_prints)
  | _ => none
theorem mT_X8_note_ok {l : Launch} {n : Nat} (hn : 8 ≤ n) : ∀ i e, mT_X8_note i = some e → mV l (rmOf n) RX8 i e := by
  intro i e h
  unfold mT_X8_note at h
  split at h
  · cases h; exact mvS (lv := 0) mw_X8_in (by omega) (by decide) (by decide +kernel) (Or.inl (gtm 831 (by decide +kernel) (by decide +kernel))) ok_X8_in
  · cases h; exact mvS (lv := 1) mw_X8_letterOf (by omega) (by decide) (by decide +kernel) (Or.inl (gtm 963 (by decide +kernel) (by decide +kernel))) ok_X8_letterOf
  · cases h; exact mvS (lv := 2) mw_X8_nameOf (by omega) (by decide) (by decide +kernel) (Or.inl (gtm 979 (by decide +kernel) (by decide +kernel))) ok_X8_nameOf
  · cases h; exact mvS (lv := 2) mw_X8_alterOf (by omega) (by decide) (by decide +kernel) (Or.inl (gtm 966 (by decide +kernel) (by decide +kernel))) ok_X8_alterOf
  · cases h; exact mvI (lv := 1) (ci := 7) (T := TX8) (N := 28) mw_X8_isNote rfl (by omega) (by decide) (by decide +kernel) (gtm 923 (by decide +kernel) (by decide +kernel)) rc_X8_isNote ok_X8_isNote
  · cases h; exact mvI (lv := 0) (ci := 7) (T := TX8) (N := 28) mw_X8_chordOf rfl (by omega) (by decide) (by decide +kernel) (gtm 993 (by decide +kernel) (by decide +kernel)) rc_X8_chordOf ok_X8_chordOf
  · cases h; exact mvI (lv := 7) (ci := 7) (T := TX8) (N := 28) mw_X8_prints rfl (by omega) (by decide) (by decide +kernel) (gtm 997 (by decide +kernel) (by decide +kernel)) rc_X8_prints ok_X8_prints
  · cases h
set_option maxRecDepth 100000 in
set_option maxHeartbeats 16000000 in
theorem ok_X8_note : ∀ l n, 8 ≤ n → ∀ a σ Q, S_X8_note a σ Q → AM l n yX8_note cX8_note 5 (some .int) a σ Q := by
  intro l n hn a σ Q hS
  unfold S_X8_note at hS
  split at hS
  rotate_left
  · exact hS.elim
  rename_i k w
  obtain ⟨⟨c1, c2⟩, ⟨w1, w2⟩, hV, hq⟩ := hS
  obtain ⟨V, hVe⟩ : ∃ V, V = vM σ 64 0 := ⟨_, rfl⟩
  simp only [← hVe] at hq hV
  obtain ⟨v0, v1, v2⟩ := vM_0 σ 64
  rw [← hVe] at v0 v1 v2
  obtain ⟨o1, o2, o3, -, oc, on⟩ := id hV
  refine am_ofF 1 cpX8 mT_X8_note (plainFor_of_name (by decide +kernel)) (rfl) (Nat.le_of_ble_eq_true rfl) (cpX8_ok) (mT_X8_note_ok hn) (fun K hK => ?_)
  by_cases hk : (0 ≤ k ∧ k < σ 64 2) ∧ (0 ≤ w ∧ w ≤ 5)
  · rw [if_neg (by omega)] at hq
    obtain ⟨c, j, hc, hj, hkj, hq⟩ := hq
    have hnc : (ncV V : Int) = σ 64 1 := by unfold ncV; rw [v1]; omega
    have occ := oc c (by omega)
    have hkey := on k.toNat (by omega)
    have hk6 : V 6 k.toNat = σ 64 (53 + k).toNat := by
      rw [hVe, vM_n (by omega)]
      congr 1
      omega
    have wl := winV_lt hV (by omega) c hc
    have plb := plV_b hV (c := c) (j := j) hc
    have hpl : namZ (-15 + (winV V c : Int)) (V 6 k.toNat) = plV V c j := by
      rw [show -15 + (winV V c : Int) = (winV V c : Int) - 15 by omega, show k.toNat = (V 4 c).toNat + j by omega]
      rfl
    rw [hk6] at hq hkey hpl
    have late : ∀ τ, prOk σ τ V → 2 ≤ w → K 58 [some (.inr (.inl 58)), some (.inl k), some (.inl w), some (.inl (c : Int)), none] [] τ := by
      intro τ hτ h2
      rw [if_neg (by omega), if_neg (by omega)] at hq
      have h1 := hτ.2.2.2.1 c hc
      have h64 : τ 64 = σ 64 := hτ.1 64 (by unfold prP; omega)
      have hf := hq τ hτ
      have h74 := hτ.2.2.2.2 c j hc hj
      rw [show (V 4 c).toNat + j = k.toNat by omega] at h74
      unfold ntV at hf
      refine hK (fun q => q == 26 || q == 58) 100 _ _ _ _ ?_
      simp only [↓wp, ↓stp, ilen, lnth, st1, st2, nolong, nohead, rnth, ↓gfX, ↓pfX, gfV, pfV, cpF, cpP, cndZ, ↓tgo, ↓tsw, ↓lsw, ↓ldI, ↓ldA, ↓ldL, ↓stI, ↓stA, ↓stL, ↓bin, ↓binD, ↓binL, ↓binDL, ↓una, ↓acV, ↓acK, ↓acpy, ↓inv, entL, nones, List.length_cons, List.length_nil, List.take, List.drop, List.reverse_cons, List.reverse_nil, List.nil_append, List.cons_append, Option.toList_some, Option.toList_none, Nat.reduceAdd, Nat.reduceSub, Nat.reduceLT, Nat.reduceEqDiff, Fin.isValue, aTL, aSZ, Int.toNat_natCast, hset_same, hset_o, hset_s, hset_row, ne_eq, Nat.reduceBEq, beq_self_eq_true, Fin.val_zero, Fin.val_one, fin0, fin1, fin2, fin3, Nat.le_refl, Nat.reduceLeDiff, Nat.zero_le, Int.reduceAdd, Int.reduceNeg, Int.reduceLE, Int.reduceLT, Int.reduceToNat, Int.reduceMul, Int.cast_ofNat_Int, Nat.reduceMod, ↓reduceIte, if_true, if_false, and_true, true_and, or_true, true_or, false_or, or_false, and_self, not_true_eq_false, not_false_eq_true, Bool.false_eq_true, reduceCtorEq, false_implies, true_implies, implies_true, and_false, false_and, dX8_note_0, dX8_note_1, dX8_note_2, dX8_note_5, dX8_note_8, dX8_note_9, dX8_note_10, dX8_note_11, dX8_note_14, dX8_note_17, dX8_note_19, dX8_note_20, dX8_note_21, dX8_note_22, dX8_note_25, dX8_note_26, dX8_note_27, dX8_note_28, dX8_note_31, dX8_note_32, dX8_note_35, dX8_note_36, dX8_note_39, dX8_note_41, dX8_note_42, dX8_note_43, dX8_note_44, dX8_note_47, dX8_note_48, dX8_note_49, dX8_note_50, dX8_note_51, dX8_note_54, dX8_note_57, dX8_note_58, dX8_note_60, dX8_note_61, dX8_note_64, dX8_note_65, dX8_note_66, dX8_note_67, dX8_note_68, dX8_note_71, dX8_note_73, dX8_note_74, dX8_note_75, dX8_note_76, dX8_note_79, dX8_note_81, dX8_note_82, dX8_note_83, dX8_note_86, dX8_note_88, dX8_note_91, dX8_note_92, dX8_note_93, dX8_note_96, dX8_note_98, dX8_note_101, dX8_note_104, dX8_note_105, dX8_note_106, dX8_note_109, dX8_note_111, dX8_note_114, dX8_note_117, dX8_note_118, dX8_note_121, dX8_note_122, dX8_note_123, cpX8, mT_X8_note, SHl_58, SHl_59, SHl_60, SHl_61, SHl_62, SHl_63, SHl_64, SHl_65, SHl_66, SHl_67, SHl_68, SHl_69, SHl_70, SHl_71, SHl_72, SHl_73, SHl_74, SHl_75, S_X8_alterOf, S_X8_chordOf, S_X8_in, S_X8_isNote, S_X8_letterOf, S_X8_nameOf, S_X8_prints, Bool.or_true, Bool.or_false, Bool.true_or, Bool.false_or]
      rw [h1, h64, hpl, h74]
      (repeat' (first | apply And.intro | intro _)) <;> first | omega | (repeat (first | rw [if_pos (by omega)] at hf | rw [if_neg (by omega)] at hf)) <;> exact hf
    have mid : K 26 [some (.inr (.inl 58)), some (.inl k), some (.inl w), some (.inl (c : Int)), none] [] σ := by
      refine hK (fun q => q == 26 || q == 58) 100 _ _ _ _ ?_
      simp only [↓wp, ↓stp, ilen, lnth, st1, st2, nolong, nohead, rnth, ↓gfX, ↓pfX, gfV, pfV, cpF, cpP, cndZ, ↓tgo, ↓tsw, ↓lsw, ↓ldI, ↓ldA, ↓ldL, ↓stI, ↓stA, ↓stL, ↓bin, ↓binD, ↓binL, ↓binDL, ↓una, ↓acV, ↓acK, ↓acpy, ↓inv, entL, nones, List.length_cons, List.length_nil, List.take, List.drop, List.reverse_cons, List.reverse_nil, List.nil_append, List.cons_append, Option.toList_some, Option.toList_none, Nat.reduceAdd, Nat.reduceSub, Nat.reduceLT, Nat.reduceEqDiff, Fin.isValue, aTL, aSZ, Int.toNat_natCast, hset_same, hset_o, hset_s, hset_row, ne_eq, Nat.reduceBEq, beq_self_eq_true, Fin.val_zero, Fin.val_one, fin0, fin1, fin2, fin3, Nat.le_refl, Nat.reduceLeDiff, Nat.zero_le, Int.reduceAdd, Int.reduceNeg, Int.reduceLE, Int.reduceLT, Int.reduceToNat, Int.reduceMul, Int.cast_ofNat_Int, Nat.reduceMod, ↓reduceIte, if_true, if_false, and_true, true_and, or_true, true_or, false_or, or_false, and_self, not_true_eq_false, not_false_eq_true, Bool.false_eq_true, reduceCtorEq, false_implies, true_implies, implies_true, and_false, false_and, dX8_note_0, dX8_note_1, dX8_note_2, dX8_note_5, dX8_note_8, dX8_note_9, dX8_note_10, dX8_note_11, dX8_note_14, dX8_note_17, dX8_note_19, dX8_note_20, dX8_note_21, dX8_note_22, dX8_note_25, dX8_note_26, dX8_note_27, dX8_note_28, dX8_note_31, dX8_note_32, dX8_note_35, dX8_note_36, dX8_note_39, dX8_note_41, dX8_note_42, dX8_note_43, dX8_note_44, dX8_note_47, dX8_note_48, dX8_note_49, dX8_note_50, dX8_note_51, dX8_note_54, dX8_note_57, dX8_note_58, dX8_note_60, dX8_note_61, dX8_note_64, dX8_note_65, dX8_note_66, dX8_note_67, dX8_note_68, dX8_note_71, dX8_note_73, dX8_note_74, dX8_note_75, dX8_note_76, dX8_note_79, dX8_note_81, dX8_note_82, dX8_note_83, dX8_note_86, dX8_note_88, dX8_note_91, dX8_note_92, dX8_note_93, dX8_note_96, dX8_note_98, dX8_note_101, dX8_note_104, dX8_note_105, dX8_note_106, dX8_note_109, dX8_note_111, dX8_note_114, dX8_note_117, dX8_note_118, dX8_note_121, dX8_note_122, dX8_note_123, cpX8, mT_X8_note, SHl_58, SHl_59, SHl_60, SHl_61, SHl_62, SHl_63, SHl_64, SHl_65, SHl_66, SHl_67, SHl_68, SHl_69, SHl_70, SHl_71, SHl_72, SHl_73, SHl_74, SHl_75, S_X8_alterOf, S_X8_chordOf, S_X8_in, S_X8_isNote, S_X8_letterOf, S_X8_nameOf, S_X8_prints, Bool.or_true, Bool.or_false, Bool.true_or, Bool.false_or]
      refine ⟨⟨by omega, by omega⟩, ⟨by omega, by omega⟩, fun q => ⟨isW_64, by rw [← hVe]; exact hV, by omega, fun τ hτ => late τ (by rw [hVe]; exact hτ) q⟩, fun q => ⟨⟨by omega, by omega⟩, fun r => ?_, fun r => ?_⟩⟩
      · rw [if_neg (by omega), if_pos (by omega)] at hq
        exact hq
      · rw [if_pos (by omega)] at hq
        exact ⟨by omega, by omega, hq⟩
    refine hK (fun q => q == 26 || q == 58) 100 _ _ _ _ ?_
    simp only [↓wp, ↓stp, ilen, lnth, st1, st2, nolong, nohead, rnth, ↓gfX, ↓pfX, gfV, pfV, cpF, cpP, cndZ, ↓tgo, ↓tsw, ↓lsw, ↓ldI, ↓ldA, ↓ldL, ↓stI, ↓stA, ↓stL, ↓bin, ↓binD, ↓binL, ↓binDL, ↓una, ↓acV, ↓acK, ↓acpy, ↓inv, entL, nones, List.length_cons, List.length_nil, List.take, List.drop, List.reverse_cons, List.reverse_nil, List.nil_append, List.cons_append, Option.toList_some, Option.toList_none, Nat.reduceAdd, Nat.reduceSub, Nat.reduceLT, Nat.reduceEqDiff, Fin.isValue, aTL, aSZ, Int.toNat_natCast, hset_same, hset_o, hset_s, hset_row, ne_eq, Nat.reduceBEq, beq_self_eq_true, Fin.val_zero, Fin.val_one, fin0, fin1, fin2, fin3, Nat.le_refl, Nat.reduceLeDiff, Nat.zero_le, Int.reduceAdd, Int.reduceNeg, Int.reduceLE, Int.reduceLT, Int.reduceToNat, Int.reduceMul, Int.cast_ofNat_Int, Nat.reduceMod, ↓reduceIte, if_true, if_false, and_true, true_and, or_true, true_or, false_or, or_false, and_self, not_true_eq_false, not_false_eq_true, Bool.false_eq_true, reduceCtorEq, false_implies, true_implies, implies_true, and_false, false_and, dX8_note_0, dX8_note_1, dX8_note_2, dX8_note_5, dX8_note_8, dX8_note_9, dX8_note_10, dX8_note_11, dX8_note_14, dX8_note_17, dX8_note_19, dX8_note_20, dX8_note_21, dX8_note_22, dX8_note_25, dX8_note_26, dX8_note_27, dX8_note_28, dX8_note_31, dX8_note_32, dX8_note_35, dX8_note_36, dX8_note_39, dX8_note_41, dX8_note_42, dX8_note_43, dX8_note_44, dX8_note_47, dX8_note_48, dX8_note_49, dX8_note_50, dX8_note_51, dX8_note_54, dX8_note_57, dX8_note_58, dX8_note_60, dX8_note_61, dX8_note_64, dX8_note_65, dX8_note_66, dX8_note_67, dX8_note_68, dX8_note_71, dX8_note_73, dX8_note_74, dX8_note_75, dX8_note_76, dX8_note_79, dX8_note_81, dX8_note_82, dX8_note_83, dX8_note_86, dX8_note_88, dX8_note_91, dX8_note_92, dX8_note_93, dX8_note_96, dX8_note_98, dX8_note_101, dX8_note_104, dX8_note_105, dX8_note_106, dX8_note_109, dX8_note_111, dX8_note_114, dX8_note_117, dX8_note_118, dX8_note_121, dX8_note_122, dX8_note_123, cpX8, mT_X8_note, SHl_58, SHl_59, SHl_60, SHl_61, SHl_62, SHl_63, SHl_64, SHl_65, SHl_66, SHl_67, SHl_68, SHl_69, SHl_70, SHl_71, SHl_72, SHl_73, SHl_74, SHl_75, S_X8_alterOf, S_X8_chordOf, S_X8_in, S_X8_isNote, S_X8_letterOf, S_X8_nameOf, S_X8_prints, Bool.or_true, Bool.or_false, Bool.true_or, Bool.false_or]
    have hch : okV (vM σ 64 0) ∧ ∃ c, c < ncV (vM σ 64 0) ∧ vM σ 64 0 4 c ≤ k ∧ k < vM σ 64 0 4 c + vM σ 64 0 5 c ∧ K 26 [some (.inr (.inl 58)), some (.inl k), some (.inl w), some (.inl (c : Int)), none] [] σ := by
      rw [← hVe]
      exact ⟨hV, c, hc, by omega, by omega, mid⟩
    (repeat' (first | exact hch | apply And.intro | intro _)) <;> omega
  · rw [if_pos (by omega)] at hq
    refine hK (fun q => q == 26 || q == 58) 100 _ _ _ _ ?_
    simp only [↓wp, ↓stp, ilen, lnth, st1, st2, nolong, nohead, rnth, ↓gfX, ↓pfX, gfV, pfV, cpF, cpP, cndZ, ↓tgo, ↓tsw, ↓lsw, ↓ldI, ↓ldA, ↓ldL, ↓stI, ↓stA, ↓stL, ↓bin, ↓binD, ↓binL, ↓binDL, ↓una, ↓acV, ↓acK, ↓acpy, ↓inv, entL, nones, List.length_cons, List.length_nil, List.take, List.drop, List.reverse_cons, List.reverse_nil, List.nil_append, List.cons_append, Option.toList_some, Option.toList_none, Nat.reduceAdd, Nat.reduceSub, Nat.reduceLT, Nat.reduceEqDiff, Fin.isValue, aTL, aSZ, Int.toNat_natCast, hset_same, hset_o, hset_s, hset_row, ne_eq, Nat.reduceBEq, beq_self_eq_true, Fin.val_zero, Fin.val_one, fin0, fin1, fin2, fin3, Nat.le_refl, Nat.reduceLeDiff, Nat.zero_le, Int.reduceAdd, Int.reduceNeg, Int.reduceLE, Int.reduceLT, Int.reduceToNat, Int.reduceMul, Int.cast_ofNat_Int, Nat.reduceMod, ↓reduceIte, if_true, if_false, and_true, true_and, or_true, true_or, false_or, or_false, and_self, not_true_eq_false, not_false_eq_true, Bool.false_eq_true, reduceCtorEq, false_implies, true_implies, implies_true, and_false, false_and, dX8_note_0, dX8_note_1, dX8_note_2, dX8_note_5, dX8_note_8, dX8_note_9, dX8_note_10, dX8_note_11, dX8_note_14, dX8_note_17, dX8_note_19, dX8_note_20, dX8_note_21, dX8_note_22, dX8_note_25, dX8_note_26, dX8_note_27, dX8_note_28, dX8_note_31, dX8_note_32, dX8_note_35, dX8_note_36, dX8_note_39, dX8_note_41, dX8_note_42, dX8_note_43, dX8_note_44, dX8_note_47, dX8_note_48, dX8_note_49, dX8_note_50, dX8_note_51, dX8_note_54, dX8_note_57, dX8_note_58, dX8_note_60, dX8_note_61, dX8_note_64, dX8_note_65, dX8_note_66, dX8_note_67, dX8_note_68, dX8_note_71, dX8_note_73, dX8_note_74, dX8_note_75, dX8_note_76, dX8_note_79, dX8_note_81, dX8_note_82, dX8_note_83, dX8_note_86, dX8_note_88, dX8_note_91, dX8_note_92, dX8_note_93, dX8_note_96, dX8_note_98, dX8_note_101, dX8_note_104, dX8_note_105, dX8_note_106, dX8_note_109, dX8_note_111, dX8_note_114, dX8_note_117, dX8_note_118, dX8_note_121, dX8_note_122, dX8_note_123, cpX8, mT_X8_note, SHl_58, SHl_59, SHl_60, SHl_61, SHl_62, SHl_63, SHl_64, SHl_65, SHl_66, SHl_67, SHl_68, SHl_69, SHl_70, SHl_71, SHl_72, SHl_73, SHl_74, SHl_75, S_X8_alterOf, S_X8_chordOf, S_X8_in, S_X8_isNote, S_X8_letterOf, S_X8_nameOf, S_X8_prints, Bool.or_true, Bool.or_false, Bool.true_or, Bool.false_or]
    (repeat' (first | exact hq | apply And.intro | intro _)) <;> first | omega | (exfalso; omega)
