/-! ===== the reference: copies, copy, notes, acts ===== -/
theorem hcpy_0 (σ : HP) (f : Nat) (a : Int) (t : Nat) (b : Int) : hcpy σ f a t b 0 = σ := by
  funext q j
  unfold hcpy
  rw [if_neg (by simp only [Int.toNat_zero]; omega)]
theorem hcpy_f {σ : HP} {f t q : Nat} {a b n : Int} (h : q ≠ t) : hcpy σ f a t b n q = σ q := by
  funext j
  unfold hcpy
  rw [if_neg (fun z => h z.1)]
theorem hcpy_in {σ : HP} {f t : Nat} {a b n : Int} (j : Nat) (h : j < n.toNat) : hcpy σ f a t b n t (b.toNat + j) = σ f (a.toNat + j) := by
  unfold hcpy
  rw [if_pos ⟨rfl, by omega, by omega⟩, show b.toNat + j - b.toNat = j by omega]
theorem hcpy_out {σ : HP} {f t : Nat} {a b n : Int} {j : Nat} (h : j < b.toNat ∨ b.toNat + n.toNat ≤ j) : hcpy σ f a t b n t j = σ t j := by
  unfold hcpy
  rw [if_neg (by omega)]
theorem hcpy_s (σ : HP) (f : Nat) (a : Int) (t : Nat) (b : Int) (k : Nat) (ha : 0 ≤ a) (hb : 0 ≤ b) : hset (hcpy σ f a t b (k : Int)) t (b + (k : Int)).toNat (σ f (a + (k : Int)).toNat) = hcpy σ f a t b ((k : Int) + 1) := by
  funext q j
  unfold hset hcpy
  by_cases h : q = t ∧ j = (b + (k : Int)).toNat
  · rw [if_pos h, if_pos ⟨h.1, by omega, by omega⟩]
    congr 1
    omega
  · rw [if_neg h]
    by_cases h2 : q = t ∧ b.toNat ≤ j ∧ j < b.toNat + ((k : Int)).toNat
    · rw [if_pos h2, if_pos ⟨h2.1, h2.2.1, by omega⟩]
    · rw [if_neg h2, if_neg (fun z => h2 ⟨z.1, z.2.1, by
        have : ¬ j = (b + (k : Int)).toNat := fun w => h ⟨z.1, w⟩
        omega⟩)]
def S_X8_copies : MSpec := fun a σ Q => match a with
  | [.inr (.inl f), .inl x, .inr (.inl t), .inl y] => ∃ nf nt, SH f = (0, nf, []) ∧ SH t = (0, nt, []) ∧ t < 76 ∧ f ≠ t ∧ 0 ≤ x ∧ x + 93 ≤ (nf : Int) ∧ 0 ≤ y ∧ y + 93 ≤ (nt : Int) ∧ (nf ≤ 2000 ∧ nt ≤ 2000) ∧ Q none (hcpy σ f x t y 93)
  | _ => False
def mT_X8_copies (i : Nat) : Option (Nat × Bool × MSpec) := match i with
  | _ => none
theorem mT_X8_copies_ok {l : Launch} {n : Nat} (hn : 0 ≤ n) : ∀ i e, mT_X8_copies i = some e → mV l (rmOf n) RX8 i e := by
  intro i e h
  unfold mT_X8_copies at h
  split at h
  · cases h
set_option maxRecDepth 100000 in
set_option maxHeartbeats 4000000 in
theorem ok_X8_copies : ∀ l n, 0 ≤ n → ∀ a σ Q, S_X8_copies a σ Q → AM l n yX8_copies cX8_copies 5 none a σ Q := by
  intro l n hn a σ Q hS
  unfold S_X8_copies at hS
  split at hS
  rotate_left
  · exact hS.elim
  rename_i f x t y
  obtain ⟨nf, nt, k1, k2, k3, hne, h1, h2, h3, h4, h5, hq⟩ := hS
  refine am_ofF 0 cpX8 mT_X8_copies (plainFor_of_name (by decide +kernel)) (rfl) (Nat.le_of_ble_eq_true rfl) (cpX8_ok) (mT_X8_copies_ok hn) (fun K hK => ?_)
  have loop : ∀ (d i : Nat), i + d = 93 → K 3 [some (.inr (.inl f)), some (.inl x), some (.inr (.inl t)), some (.inl y), some (.inl (i : Int))] [] (hcpy σ f x t y (i : Int)) := by
    intro d
    induction d with
    | zero =>
      intro i hi
      refine hK (fun q => q == 3) 60 _ _ _ _ ?_
      simp only [↓wp, ↓stp, ilen, lnth, st1, st2, nolong, nohead, rnth, ↓gfX, ↓pfX, gfV, pfV, cpF, cpP, cndZ, ↓tgo, ↓tsw, ↓lsw, ↓ldI, ↓ldA, ↓ldL, ↓stI, ↓stA, ↓stL, ↓bin, ↓binD, ↓binL, ↓binDL, ↓una, ↓acV, ↓acK, ↓acpy, ↓inv, entL, nones, List.length_cons, List.length_nil, List.take, List.drop, List.reverse_cons, List.reverse_nil, List.nil_append, List.cons_append, Option.toList_some, Option.toList_none, Nat.reduceAdd, Nat.reduceSub, Nat.reduceLT, Nat.reduceEqDiff, Fin.isValue, aTL, aSZ, Int.toNat_natCast, hset_same, hset_o, hset_s, hset_row, ne_eq, Nat.reduceBEq, beq_self_eq_true, Fin.val_zero, Fin.val_one, fin0, fin1, fin2, fin3, Nat.le_refl, Nat.reduceLeDiff, Nat.zero_le, Int.reduceAdd, Int.reduceNeg, Int.reduceLE, Int.reduceLT, Int.reduceToNat, Int.reduceMul, Int.cast_ofNat_Int, Nat.reduceMod, ↓reduceIte, if_true, if_false, and_true, true_and, or_true, true_or, false_or, or_false, and_self, not_true_eq_false, not_false_eq_true, Bool.false_eq_true, reduceCtorEq, false_implies, true_implies, implies_true, and_false, false_and, dX8_copies_0, dX8_copies_1, dX8_copies_3, dX8_copies_5, dX8_copies_7, dX8_copies_10, dX8_copies_11, dX8_copies_12, dX8_copies_14, dX8_copies_15, dX8_copies_16, dX8_copies_17, dX8_copies_19, dX8_copies_20, dX8_copies_21, dX8_copies_22, dX8_copies_25, dX8_copies_28, cpX8, mT_X8_copies, SHl_58, SHl_59, SHl_60, SHl_61, SHl_62, SHl_63, SHl_64, SHl_65, SHl_66, SHl_67, SHl_68, SHl_69, SHl_70, SHl_71, SHl_72, SHl_73, SHl_74, SHl_75]
      refine ⟨⟨by omega, by omega⟩, ⟨by omega, by omega⟩, fun q => ?_, fun q => by omega⟩
      rw [show (i : Int) = 93 by omega]
      exact hq
    | succ d ih =>
      intro i hi
      refine hK (fun q => q == 3) 60 _ _ _ _ ?_
      simp only [↓wp, ↓stp, ilen, lnth, st1, st2, nolong, nohead, rnth, ↓gfX, ↓pfX, gfV, pfV, cpF, cpP, cndZ, ↓tgo, ↓tsw, ↓lsw, ↓ldI, ↓ldA, ↓ldL, ↓stI, ↓stA, ↓stL, ↓bin, ↓binD, ↓binL, ↓binDL, ↓una, ↓acV, ↓acK, ↓acpy, ↓inv, entL, nones, List.length_cons, List.length_nil, List.take, List.drop, List.reverse_cons, List.reverse_nil, List.nil_append, List.cons_append, Option.toList_some, Option.toList_none, Nat.reduceAdd, Nat.reduceSub, Nat.reduceLT, Nat.reduceEqDiff, Fin.isValue, aTL, aSZ, Int.toNat_natCast, hset_same, hset_o, hset_s, hset_row, ne_eq, Nat.reduceBEq, beq_self_eq_true, Fin.val_zero, Fin.val_one, fin0, fin1, fin2, fin3, Nat.le_refl, Nat.reduceLeDiff, Nat.zero_le, Int.reduceAdd, Int.reduceNeg, Int.reduceLE, Int.reduceLT, Int.reduceToNat, Int.reduceMul, Int.cast_ofNat_Int, Nat.reduceMod, ↓reduceIte, if_true, if_false, and_true, true_and, or_true, true_or, false_or, or_false, and_self, not_true_eq_false, not_false_eq_true, Bool.false_eq_true, reduceCtorEq, false_implies, true_implies, implies_true, and_false, false_and, dX8_copies_0, dX8_copies_1, dX8_copies_3, dX8_copies_5, dX8_copies_7, dX8_copies_10, dX8_copies_11, dX8_copies_12, dX8_copies_14, dX8_copies_15, dX8_copies_16, dX8_copies_17, dX8_copies_19, dX8_copies_20, dX8_copies_21, dX8_copies_22, dX8_copies_25, dX8_copies_28, cpX8, mT_X8_copies, SHl_58, SHl_59, SHl_60, SHl_61, SHl_62, SHl_63, SHl_64, SHl_65, SHl_66, SHl_67, SHl_68, SHl_69, SHl_70, SHl_71, SHl_72, SHl_73, SHl_74, SHl_75, k1, k2]
      refine ⟨⟨by omega, by omega⟩, ⟨by omega, by omega⟩, fun q => by omega, fun q => ⟨by omega, by omega, k3, by omega, by omega, ?_⟩⟩
      have := ih (i + 1) (by omega)
      rw [show ((i + 1 : Nat) : Int) = (i : Int) + 1 by omega, ← hcpy_s σ f x t y i h1 h3] at this
      rw [hcpy_f hne]
      exact this
  refine hK (fun q => q == 3) 60 _ _ _ _ ?_
  simp only [↓wp, ↓stp, ilen, lnth, st1, st2, nolong, nohead, rnth, ↓gfX, ↓pfX, gfV, pfV, cpF, cpP, cndZ, ↓tgo, ↓tsw, ↓lsw, ↓ldI, ↓ldA, ↓ldL, ↓stI, ↓stA, ↓stL, ↓bin, ↓binD, ↓binL, ↓binDL, ↓una, ↓acV, ↓acK, ↓acpy, ↓inv, entL, nones, List.length_cons, List.length_nil, List.take, List.drop, List.reverse_cons, List.reverse_nil, List.nil_append, List.cons_append, Option.toList_some, Option.toList_none, Nat.reduceAdd, Nat.reduceSub, Nat.reduceLT, Nat.reduceEqDiff, Fin.isValue, aTL, aSZ, Int.toNat_natCast, hset_same, hset_o, hset_s, hset_row, ne_eq, Nat.reduceBEq, beq_self_eq_true, Fin.val_zero, Fin.val_one, fin0, fin1, fin2, fin3, Nat.le_refl, Nat.reduceLeDiff, Nat.zero_le, Int.reduceAdd, Int.reduceNeg, Int.reduceLE, Int.reduceLT, Int.reduceToNat, Int.reduceMul, Int.cast_ofNat_Int, Nat.reduceMod, ↓reduceIte, if_true, if_false, and_true, true_and, or_true, true_or, false_or, or_false, and_self, not_true_eq_false, not_false_eq_true, Bool.false_eq_true, reduceCtorEq, false_implies, true_implies, implies_true, and_false, false_and, dX8_copies_0, dX8_copies_1, dX8_copies_3, dX8_copies_5, dX8_copies_7, dX8_copies_10, dX8_copies_11, dX8_copies_12, dX8_copies_14, dX8_copies_15, dX8_copies_16, dX8_copies_17, dX8_copies_19, dX8_copies_20, dX8_copies_21, dX8_copies_22, dX8_copies_25, dX8_copies_28, cpX8, mT_X8_copies, SHl_58, SHl_59, SHl_60, SHl_61, SHl_62, SHl_63, SHl_64, SHl_65, SHl_66, SHl_67, SHl_68, SHl_69, SHl_70, SHl_71, SHl_72, SHl_73, SHl_74, SHl_75]
  have := loop 93 0 (by omega)
  rw [show ((0 : Nat) : Int) = 0 by omega, hcpy_0] at this
  exact this
def S_X8_copy : MSpec := fun a σ Q => match a with
  | [.inr (.inl 58), .inl r, .inl i, .inl s, .inl j, .inl n] => R32 r ∧ R32 i ∧ R32 s ∧ R32 j ∧ R32 n ∧ (∀ r, r < 8 → R32 (σ 59 r) ∧ (0 ≤ σ 60 r ∧ σ 60 r ≤ 40)) ∧ (if ¬ (0 ≤ r ∧ r ≤ 7) ∨ ¬ (0 ≤ s ∧ s ≤ 7) then Q (some (.inl (-1000001))) σ else if σ 59 r.toNat = -1000000 ∨ σ 59 s.toNat = -1000000 then Q (some (.inl (-1000011))) (hset σ 58 4 1) else if ¬ σ 59 r.toNat = σ 59 s.toNat then Q (some (.inl (-1000015))) (hset σ 58 4 5) else if ¬ (0 ≤ i ∧ 0 ≤ n ∧ n ≤ σ 60 r.toNat - i) ∨ ¬ (0 ≤ j ∧ 0 ≤ n ∧ n ≤ σ 60 s.toNat - j) then Q (some (.inl (-1000012))) (hset σ 58 4 2) else Q (some (.inl n)) (hset (hcpy (hcpy σ 61 (40 * r + i) 62 0 n) 62 0 61 (40 * s + j) n) 58 4 0))
  | _ => False
theorem rc_X8_copy : ∀ a σ Q, S_X8_copy a σ Q → ∃ (p : Nat) (r : List AV), a = .inr (.inl p) :: r ∧ p < 76 ∧ (SH p).1 = 4 ∧ (SH p).2.1 = 7 := by
  intro a σ Q h
  unfold S_X8_copy at h
  split at h
  · exact ⟨58, _, rfl, by decide, rfl, rfl⟩
  · exact h.elim
def mT_X8_copy (i : Nat) : Option (Nat × Bool × MSpec) := match i with
  | 72 => some (1, false, S_X8_isRow)
  | 77 => some (2, true, S_X8_found)
  | 81 => some (2, true, S_X8_well)
  | 84 => some (2, true, S_X8_isMissing)
  | 91 => some (4, true, S_X8_isPart)
  | _ => none
theorem mT_X8_copy_ok {l : Launch} {n : Nat} (hn : 2 ≤ n) : ∀ i e, mT_X8_copy i = some e → mV l (rmOf n) RX8 i e := by
  intro i e h
  unfold mT_X8_copy at h
  split at h
  · cases h; exact mvS (lv := 1) mw_X8_isRow (by omega) (by decide) (by decide +kernel) (Or.inl (gtm 828 (by decide +kernel) (by decide +kernel))) ok_X8_isRow
  · cases h; exact mvI (lv := 0) (ci := 7) (T := TX8) (N := 28) mw_X8_found rfl (by omega) (by decide) (by decide +kernel) (gtm 835 (by decide +kernel) (by decide +kernel)) rc_X8_found ok_X8_found
  · cases h; exact mvI (lv := 0) (ci := 7) (T := TX8) (N := 28) mw_X8_well rfl (by omega) (by decide) (by decide +kernel) (gtm 840 (by decide +kernel) (by decide +kernel)) rc_X8_well ok_X8_well
  · cases h; exact mvI (lv := 0) (ci := 7) (T := TX8) (N := 28) mw_X8_isMissing rfl (by omega) (by decide) (by decide +kernel) (gtm 848 (by decide +kernel) (by decide +kernel)) rc_X8_isMissing ok_X8_isMissing
  · cases h; exact mvI (lv := 0) (ci := 7) (T := TX8) (N := 28) mw_X8_isPart rfl (by omega) (by decide) (by decide +kernel) (gtm 859 (by decide +kernel) (by decide +kernel)) rc_X8_isPart ok_X8_isPart
  · cases h
set_option maxRecDepth 100000 in
set_option maxHeartbeats 16000000 in
theorem ok_X8_copy : ∀ l n, 2 ≤ n → ∀ a σ Q, S_X8_copy a σ Q → AM l n yX8_copy cX8_copy 7 (some .int) a σ Q := by
  intro l n hn a σ Q hS
  unfold S_X8_copy at hS
  split at hS
  rotate_left
  · exact hS.elim
  rename_i r i s j nn
  obtain ⟨⟨r1, r2⟩, ⟨i1, i2⟩, ⟨s1, s2⟩, ⟨j1, j2⟩, ⟨n1, n2⟩, hI, hq⟩ := hS
  refine am_ofF 1 cpX8 mT_X8_copy (plainFor_of_name (by decide +kernel)) (rfl) (Nat.le_of_ble_eq_true rfl) (cpX8_ok) (mT_X8_copy_ok hn) (fun K hK => ?_)
  have main : (0 ≤ r ∧ r ≤ 7) → (0 ≤ s ∧ s ≤ 7) → ¬ σ 59 r.toNat = -1000000 → ¬ σ 59 s.toNat = -1000000 → σ 59 r.toNat = σ 59 s.toNat → (0 ≤ i ∧ 0 ≤ nn ∧ nn ≤ σ 60 r.toNat - i) → (0 ≤ j ∧ 0 ≤ nn ∧ nn ≤ σ 60 s.toNat - j) → K 92 [some (.inr (.inl 58)), some (.inl r), some (.inl i), some (.inl s), some (.inl j), some (.inl nn), some (.inl 0)] [] σ := by
    intro b1 b2 b3 b4 b5 b6 b7
    rw [if_neg (by omega), if_neg (by omega), if_neg (by omega), if_neg (by omega)] at hq
    have hr := (hI r.toNat (by omega)).2
    have hs := (hI s.toNat (by omega)).2
    obtain ⟨N, hN⟩ : ∃ N : Nat, nn = (N : Int) := ⟨nn.toNat, by omega⟩
    have loop2 : ∀ (d t : Nat), t + d = N → K 129 [some (.inr (.inl 58)), some (.inl r), some (.inl i), some (.inl s), some (.inl j), some (.inl nn), some (.inl (t : Int))] [] (hcpy (hcpy σ 61 (40 * r + i) 62 0 nn) 62 0 61 (40 * s + j) (t : Int)) := by
      intro d
      induction d with
      | zero =>
        intro t ht
        refine hK (fun q => q == 92 || q == 129) 60 _ _ _ _ ?_
        simp only [↓wp, ↓stp, ilen, lnth, st1, st2, nolong, nohead, rnth, ↓gfX, ↓pfX, gfV, pfV, cpF, cpP, cndZ, ↓tgo, ↓tsw, ↓lsw, ↓ldI, ↓ldA, ↓ldL, ↓stI, ↓stA, ↓stL, ↓bin, ↓binD, ↓binL, ↓binDL, ↓una, ↓acV, ↓acK, ↓acpy, ↓inv, entL, nones, List.length_cons, List.length_nil, List.take, List.drop, List.reverse_cons, List.reverse_nil, List.nil_append, List.cons_append, Option.toList_some, Option.toList_none, Nat.reduceAdd, Nat.reduceSub, Nat.reduceLT, Nat.reduceEqDiff, Fin.isValue, aTL, aSZ, Int.toNat_natCast, hset_same, hset_o, hset_s, hset_row, ne_eq, Nat.reduceBEq, beq_self_eq_true, Fin.val_zero, Fin.val_one, fin0, fin1, fin2, fin3, Nat.le_refl, Nat.reduceLeDiff, Nat.zero_le, Int.reduceAdd, Int.reduceNeg, Int.reduceLE, Int.reduceLT, Int.reduceToNat, Int.reduceMul, Int.cast_ofNat_Int, Nat.reduceMod, ↓reduceIte, if_true, if_false, and_true, true_and, or_true, true_or, false_or, or_false, and_self, not_true_eq_false, not_false_eq_true, Bool.false_eq_true, reduceCtorEq, false_implies, true_implies, implies_true, and_false, false_and, dX8_copy_0, dX8_copy_1, dX8_copy_4, dX8_copy_7, dX8_copy_8, dX8_copy_11, dX8_copy_14, dX8_copy_16, dX8_copy_17, dX8_copy_18, dX8_copy_19, dX8_copy_22, dX8_copy_25, dX8_copy_26, dX8_copy_27, dX8_copy_30, dX8_copy_33, dX8_copy_34, dX8_copy_35, dX8_copy_38, dX8_copy_39, dX8_copy_40, dX8_copy_43, dX8_copy_44, dX8_copy_45, dX8_copy_46, dX8_copy_49, dX8_copy_50, dX8_copy_51, dX8_copy_54, dX8_copy_55, dX8_copy_56, dX8_copy_59, dX8_copy_60, dX8_copy_61, dX8_copy_62, dX8_copy_63, dX8_copy_65, dX8_copy_68, dX8_copy_71, dX8_copy_72, dX8_copy_73, dX8_copy_75, dX8_copy_77, dX8_copy_80, dX8_copy_83, dX8_copy_84, dX8_copy_85, dX8_copy_88, dX8_copy_89, dX8_copy_90, dX8_copy_92, dX8_copy_94, dX8_copy_96, dX8_copy_99, dX8_copy_100, dX8_copy_103, dX8_copy_105, dX8_copy_106, dX8_copy_109, dX8_copy_111, dX8_copy_112, dX8_copy_113, dX8_copy_114, dX8_copy_115, dX8_copy_117, dX8_copy_118, dX8_copy_119, dX8_copy_120, dX8_copy_123, dX8_copy_126, dX8_copy_127, dX8_copy_129, dX8_copy_131, dX8_copy_133, dX8_copy_136, dX8_copy_137, dX8_copy_140, dX8_copy_142, dX8_copy_143, dX8_copy_144, dX8_copy_146, dX8_copy_147, dX8_copy_149, dX8_copy_150, dX8_copy_151, dX8_copy_154, dX8_copy_156, dX8_copy_157, dX8_copy_158, dX8_copy_161, dX8_copy_164, dX8_copy_165, dX8_copy_167, dX8_copy_170, cpX8, mT_X8_copy, SHl_58, SHl_59, SHl_60, SHl_61, SHl_62, SHl_63, SHl_64, SHl_65, SHl_66, SHl_67, SHl_68, SHl_69, SHl_70, SHl_71, SHl_72, SHl_73, SHl_74, SHl_75, S_X8_found, S_X8_isMissing, S_X8_isPart, S_X8_isRow, S_X8_well, Bool.or_true, Bool.or_false, Bool.true_or, Bool.false_or]
        refine ⟨⟨by omega, by omega⟩, ⟨by omega, by omega⟩, fun q => ?_, fun q => by omega⟩
        rw [show (t : Int) = nn by omega]
        exact hq
      | succ d ih =>
        intro t ht
        refine hK (fun q => q == 92 || q == 129) 60 _ _ _ _ ?_
        simp only [↓wp, ↓stp, ilen, lnth, st1, st2, nolong, nohead, rnth, ↓gfX, ↓pfX, gfV, pfV, cpF, cpP, cndZ, ↓tgo, ↓tsw, ↓lsw, ↓ldI, ↓ldA, ↓ldL, ↓stI, ↓stA, ↓stL, ↓bin, ↓binD, ↓binL, ↓binDL, ↓una, ↓acV, ↓acK, ↓acpy, ↓inv, entL, nones, List.length_cons, List.length_nil, List.take, List.drop, List.reverse_cons, List.reverse_nil, List.nil_append, List.cons_append, Option.toList_some, Option.toList_none, Nat.reduceAdd, Nat.reduceSub, Nat.reduceLT, Nat.reduceEqDiff, Fin.isValue, aTL, aSZ, Int.toNat_natCast, hset_same, hset_o, hset_s, hset_row, ne_eq, Nat.reduceBEq, beq_self_eq_true, Fin.val_zero, Fin.val_one, fin0, fin1, fin2, fin3, Nat.le_refl, Nat.reduceLeDiff, Nat.zero_le, Int.reduceAdd, Int.reduceNeg, Int.reduceLE, Int.reduceLT, Int.reduceToNat, Int.reduceMul, Int.cast_ofNat_Int, Nat.reduceMod, ↓reduceIte, if_true, if_false, and_true, true_and, or_true, true_or, false_or, or_false, and_self, not_true_eq_false, not_false_eq_true, Bool.false_eq_true, reduceCtorEq, false_implies, true_implies, implies_true, and_false, false_and, dX8_copy_0, dX8_copy_1, dX8_copy_4, dX8_copy_7, dX8_copy_8, dX8_copy_11, dX8_copy_14, dX8_copy_16, dX8_copy_17, dX8_copy_18, dX8_copy_19, dX8_copy_22, dX8_copy_25, dX8_copy_26, dX8_copy_27, dX8_copy_30, dX8_copy_33, dX8_copy_34, dX8_copy_35, dX8_copy_38, dX8_copy_39, dX8_copy_40, dX8_copy_43, dX8_copy_44, dX8_copy_45, dX8_copy_46, dX8_copy_49, dX8_copy_50, dX8_copy_51, dX8_copy_54, dX8_copy_55, dX8_copy_56, dX8_copy_59, dX8_copy_60, dX8_copy_61, dX8_copy_62, dX8_copy_63, dX8_copy_65, dX8_copy_68, dX8_copy_71, dX8_copy_72, dX8_copy_73, dX8_copy_75, dX8_copy_77, dX8_copy_80, dX8_copy_83, dX8_copy_84, dX8_copy_85, dX8_copy_88, dX8_copy_89, dX8_copy_90, dX8_copy_92, dX8_copy_94, dX8_copy_96, dX8_copy_99, dX8_copy_100, dX8_copy_103, dX8_copy_105, dX8_copy_106, dX8_copy_109, dX8_copy_111, dX8_copy_112, dX8_copy_113, dX8_copy_114, dX8_copy_115, dX8_copy_117, dX8_copy_118, dX8_copy_119, dX8_copy_120, dX8_copy_123, dX8_copy_126, dX8_copy_127, dX8_copy_129, dX8_copy_131, dX8_copy_133, dX8_copy_136, dX8_copy_137, dX8_copy_140, dX8_copy_142, dX8_copy_143, dX8_copy_144, dX8_copy_146, dX8_copy_147, dX8_copy_149, dX8_copy_150, dX8_copy_151, dX8_copy_154, dX8_copy_156, dX8_copy_157, dX8_copy_158, dX8_copy_161, dX8_copy_164, dX8_copy_165, dX8_copy_167, dX8_copy_170, cpX8, mT_X8_copy, SHl_58, SHl_59, SHl_60, SHl_61, SHl_62, SHl_63, SHl_64, SHl_65, SHl_66, SHl_67, SHl_68, SHl_69, SHl_70, SHl_71, SHl_72, SHl_73, SHl_74, SHl_75, S_X8_found, S_X8_isMissing, S_X8_isPart, S_X8_isRow, S_X8_well, Bool.or_true, Bool.or_false, Bool.true_or, Bool.false_or]
        refine ⟨⟨by omega, by omega⟩, ⟨by omega, by omega⟩, fun q => by omega, fun q => ⟨by omega, by omega, by omega, by omega, ?_⟩⟩
        have := ih (t + 1) (by omega)
        rw [show ((t + 1 : Nat) : Int) = (t : Int) + 1 by omega, ← hcpy_s _ _ _ _ _ t (by omega) (by omega), show (0 + (t : Int)).toNat = t by omega] at this
        rw [hcpy_f (q := 62) (by decide)]
        exact this
    have loop1 : ∀ (d t : Nat), t + d = N → K 92 [some (.inr (.inl 58)), some (.inl r), some (.inl i), some (.inl s), some (.inl j), some (.inl nn), some (.inl (t : Int))] [] (hcpy σ 61 (40 * r + i) 62 0 (t : Int)) := by
      intro d
      induction d with
      | zero =>
        intro t ht
        have hx := loop2 N 0 (by omega)
        rw [show ((0 : Nat) : Int) = 0 by omega, hcpy_0] at hx
        refine hK (fun q => q == 92 || q == 129) 60 _ _ _ _ ?_
        simp only [↓wp, ↓stp, ilen, lnth, st1, st2, nolong, nohead, rnth, ↓gfX, ↓pfX, gfV, pfV, cpF, cpP, cndZ, ↓tgo, ↓tsw, ↓lsw, ↓ldI, ↓ldA, ↓ldL, ↓stI, ↓stA, ↓stL, ↓bin, ↓binD, ↓binL, ↓binDL, ↓una, ↓acV, ↓acK, ↓acpy, ↓inv, entL, nones, List.length_cons, List.length_nil, List.take, List.drop, List.reverse_cons, List.reverse_nil, List.nil_append, List.cons_append, Option.toList_some, Option.toList_none, Nat.reduceAdd, Nat.reduceSub, Nat.reduceLT, Nat.reduceEqDiff, Fin.isValue, aTL, aSZ, Int.toNat_natCast, hset_same, hset_o, hset_s, hset_row, ne_eq, Nat.reduceBEq, beq_self_eq_true, Fin.val_zero, Fin.val_one, fin0, fin1, fin2, fin3, Nat.le_refl, Nat.reduceLeDiff, Nat.zero_le, Int.reduceAdd, Int.reduceNeg, Int.reduceLE, Int.reduceLT, Int.reduceToNat, Int.reduceMul, Int.cast_ofNat_Int, Nat.reduceMod, ↓reduceIte, if_true, if_false, and_true, true_and, or_true, true_or, false_or, or_false, and_self, not_true_eq_false, not_false_eq_true, Bool.false_eq_true, reduceCtorEq, false_implies, true_implies, implies_true, and_false, false_and, dX8_copy_0, dX8_copy_1, dX8_copy_4, dX8_copy_7, dX8_copy_8, dX8_copy_11, dX8_copy_14, dX8_copy_16, dX8_copy_17, dX8_copy_18, dX8_copy_19, dX8_copy_22, dX8_copy_25, dX8_copy_26, dX8_copy_27, dX8_copy_30, dX8_copy_33, dX8_copy_34, dX8_copy_35, dX8_copy_38, dX8_copy_39, dX8_copy_40, dX8_copy_43, dX8_copy_44, dX8_copy_45, dX8_copy_46, dX8_copy_49, dX8_copy_50, dX8_copy_51, dX8_copy_54, dX8_copy_55, dX8_copy_56, dX8_copy_59, dX8_copy_60, dX8_copy_61, dX8_copy_62, dX8_copy_63, dX8_copy_65, dX8_copy_68, dX8_copy_71, dX8_copy_72, dX8_copy_73, dX8_copy_75, dX8_copy_77, dX8_copy_80, dX8_copy_83, dX8_copy_84, dX8_copy_85, dX8_copy_88, dX8_copy_89, dX8_copy_90, dX8_copy_92, dX8_copy_94, dX8_copy_96, dX8_copy_99, dX8_copy_100, dX8_copy_103, dX8_copy_105, dX8_copy_106, dX8_copy_109, dX8_copy_111, dX8_copy_112, dX8_copy_113, dX8_copy_114, dX8_copy_115, dX8_copy_117, dX8_copy_118, dX8_copy_119, dX8_copy_120, dX8_copy_123, dX8_copy_126, dX8_copy_127, dX8_copy_129, dX8_copy_131, dX8_copy_133, dX8_copy_136, dX8_copy_137, dX8_copy_140, dX8_copy_142, dX8_copy_143, dX8_copy_144, dX8_copy_146, dX8_copy_147, dX8_copy_149, dX8_copy_150, dX8_copy_151, dX8_copy_154, dX8_copy_156, dX8_copy_157, dX8_copy_158, dX8_copy_161, dX8_copy_164, dX8_copy_165, dX8_copy_167, dX8_copy_170, cpX8, mT_X8_copy, SHl_58, SHl_59, SHl_60, SHl_61, SHl_62, SHl_63, SHl_64, SHl_65, SHl_66, SHl_67, SHl_68, SHl_69, SHl_70, SHl_71, SHl_72, SHl_73, SHl_74, SHl_75, S_X8_found, S_X8_isMissing, S_X8_isPart, S_X8_isRow, S_X8_well, Bool.or_true, Bool.or_false, Bool.true_or, Bool.false_or]
        refine ⟨⟨by omega, by omega⟩, ⟨by omega, by omega⟩, fun q => ?_, fun q => by omega⟩
        rw [show (t : Int) = nn by omega]
        exact hx
      | succ d ih =>
        intro t ht
        refine hK (fun q => q == 92 || q == 129) 60 _ _ _ _ ?_
        simp only [↓wp, ↓stp, ilen, lnth, st1, st2, nolong, nohead, rnth, ↓gfX, ↓pfX, gfV, pfV, cpF, cpP, cndZ, ↓tgo, ↓tsw, ↓lsw, ↓ldI, ↓ldA, ↓ldL, ↓stI, ↓stA, ↓stL, ↓bin, ↓binD, ↓binL, ↓binDL, ↓una, ↓acV, ↓acK, ↓acpy, ↓inv, entL, nones, List.length_cons, List.length_nil, List.take, List.drop, List.reverse_cons, List.reverse_nil, List.nil_append, List.cons_append, Option.toList_some, Option.toList_none, Nat.reduceAdd, Nat.reduceSub, Nat.reduceLT, Nat.reduceEqDiff, Fin.isValue, aTL, aSZ, Int.toNat_natCast, hset_same, hset_o, hset_s, hset_row, ne_eq, Nat.reduceBEq, beq_self_eq_true, Fin.val_zero, Fin.val_one, fin0, fin1, fin2, fin3, Nat.le_refl, Nat.reduceLeDiff, Nat.zero_le, Int.reduceAdd, Int.reduceNeg, Int.reduceLE, Int.reduceLT, Int.reduceToNat, Int.reduceMul, Int.cast_ofNat_Int, Nat.reduceMod, ↓reduceIte, if_true, if_false, and_true, true_and, or_true, true_or, false_or, or_false, and_self, not_true_eq_false, not_false_eq_true, Bool.false_eq_true, reduceCtorEq, false_implies, true_implies, implies_true, and_false, false_and, dX8_copy_0, dX8_copy_1, dX8_copy_4, dX8_copy_7, dX8_copy_8, dX8_copy_11, dX8_copy_14, dX8_copy_16, dX8_copy_17, dX8_copy_18, dX8_copy_19, dX8_copy_22, dX8_copy_25, dX8_copy_26, dX8_copy_27, dX8_copy_30, dX8_copy_33, dX8_copy_34, dX8_copy_35, dX8_copy_38, dX8_copy_39, dX8_copy_40, dX8_copy_43, dX8_copy_44, dX8_copy_45, dX8_copy_46, dX8_copy_49, dX8_copy_50, dX8_copy_51, dX8_copy_54, dX8_copy_55, dX8_copy_56, dX8_copy_59, dX8_copy_60, dX8_copy_61, dX8_copy_62, dX8_copy_63, dX8_copy_65, dX8_copy_68, dX8_copy_71, dX8_copy_72, dX8_copy_73, dX8_copy_75, dX8_copy_77, dX8_copy_80, dX8_copy_83, dX8_copy_84, dX8_copy_85, dX8_copy_88, dX8_copy_89, dX8_copy_90, dX8_copy_92, dX8_copy_94, dX8_copy_96, dX8_copy_99, dX8_copy_100, dX8_copy_103, dX8_copy_105, dX8_copy_106, dX8_copy_109, dX8_copy_111, dX8_copy_112, dX8_copy_113, dX8_copy_114, dX8_copy_115, dX8_copy_117, dX8_copy_118, dX8_copy_119, dX8_copy_120, dX8_copy_123, dX8_copy_126, dX8_copy_127, dX8_copy_129, dX8_copy_131, dX8_copy_133, dX8_copy_136, dX8_copy_137, dX8_copy_140, dX8_copy_142, dX8_copy_143, dX8_copy_144, dX8_copy_146, dX8_copy_147, dX8_copy_149, dX8_copy_150, dX8_copy_151, dX8_copy_154, dX8_copy_156, dX8_copy_157, dX8_copy_158, dX8_copy_161, dX8_copy_164, dX8_copy_165, dX8_copy_167, dX8_copy_170, cpX8, mT_X8_copy, SHl_58, SHl_59, SHl_60, SHl_61, SHl_62, SHl_63, SHl_64, SHl_65, SHl_66, SHl_67, SHl_68, SHl_69, SHl_70, SHl_71, SHl_72, SHl_73, SHl_74, SHl_75, S_X8_found, S_X8_isMissing, S_X8_isPart, S_X8_isRow, S_X8_well, Bool.or_true, Bool.or_false, Bool.true_or, Bool.false_or]
        refine ⟨⟨by omega, by omega⟩, ⟨by omega, by omega⟩, fun q => by omega, fun q => ⟨by omega, by omega, by omega, by omega, ?_⟩⟩
        have := ih (t + 1) (by omega)
        rw [show ((t + 1 : Nat) : Int) = (t : Int) + 1 by omega, ← hcpy_s _ _ _ _ _ t (by omega) (by omega), show (0 + (t : Int)).toNat = t by omega] at this
        rw [hcpy_f (q := 61) (by decide)]
        exact this
    have hx := loop1 N 0 (by omega)
    rw [show ((0 : Nat) : Int) = 0 by omega, hcpy_0] at hx
    exact hx
  refine hK (fun q => q == 92 || q == 129) 200 _ _ _ _ ?_
  simp only [↓wp, ↓stp, ilen, lnth, st1, st2, nolong, nohead, rnth, ↓gfX, ↓pfX, gfV, pfV, cpF, cpP, cndZ, ↓tgo, ↓tsw, ↓lsw, ↓ldI, ↓ldA, ↓ldL, ↓stI, ↓stA, ↓stL, ↓bin, ↓binD, ↓binL, ↓binDL, ↓una, ↓acV, ↓acK, ↓acpy, ↓inv, entL, nones, List.length_cons, List.length_nil, List.take, List.drop, List.reverse_cons, List.reverse_nil, List.nil_append, List.cons_append, Option.toList_some, Option.toList_none, Nat.reduceAdd, Nat.reduceSub, Nat.reduceLT, Nat.reduceEqDiff, Fin.isValue, aTL, aSZ, Int.toNat_natCast, hset_same, hset_o, hset_s, hset_row, ne_eq, Nat.reduceBEq, beq_self_eq_true, Fin.val_zero, Fin.val_one, fin0, fin1, fin2, fin3, Nat.le_refl, Nat.reduceLeDiff, Nat.zero_le, Int.reduceAdd, Int.reduceNeg, Int.reduceLE, Int.reduceLT, Int.reduceToNat, Int.reduceMul, Int.cast_ofNat_Int, Nat.reduceMod, ↓reduceIte, if_true, if_false, and_true, true_and, or_true, true_or, false_or, or_false, and_self, not_true_eq_false, not_false_eq_true, Bool.false_eq_true, reduceCtorEq, false_implies, true_implies, implies_true, and_false, false_and, dX8_copy_0, dX8_copy_1, dX8_copy_4, dX8_copy_7, dX8_copy_8, dX8_copy_11, dX8_copy_14, dX8_copy_16, dX8_copy_17, dX8_copy_18, dX8_copy_19, dX8_copy_22, dX8_copy_25, dX8_copy_26, dX8_copy_27, dX8_copy_30, dX8_copy_33, dX8_copy_34, dX8_copy_35, dX8_copy_38, dX8_copy_39, dX8_copy_40, dX8_copy_43, dX8_copy_44, dX8_copy_45, dX8_copy_46, dX8_copy_49, dX8_copy_50, dX8_copy_51, dX8_copy_54, dX8_copy_55, dX8_copy_56, dX8_copy_59, dX8_copy_60, dX8_copy_61, dX8_copy_62, dX8_copy_63, dX8_copy_65, dX8_copy_68, dX8_copy_71, dX8_copy_72, dX8_copy_73, dX8_copy_75, dX8_copy_77, dX8_copy_80, dX8_copy_83, dX8_copy_84, dX8_copy_85, dX8_copy_88, dX8_copy_89, dX8_copy_90, dX8_copy_92, dX8_copy_94, dX8_copy_96, dX8_copy_99, dX8_copy_100, dX8_copy_103, dX8_copy_105, dX8_copy_106, dX8_copy_109, dX8_copy_111, dX8_copy_112, dX8_copy_113, dX8_copy_114, dX8_copy_115, dX8_copy_117, dX8_copy_118, dX8_copy_119, dX8_copy_120, dX8_copy_123, dX8_copy_126, dX8_copy_127, dX8_copy_129, dX8_copy_131, dX8_copy_133, dX8_copy_136, dX8_copy_137, dX8_copy_140, dX8_copy_142, dX8_copy_143, dX8_copy_144, dX8_copy_146, dX8_copy_147, dX8_copy_149, dX8_copy_150, dX8_copy_151, dX8_copy_154, dX8_copy_156, dX8_copy_157, dX8_copy_158, dX8_copy_161, dX8_copy_164, dX8_copy_165, dX8_copy_167, dX8_copy_170, cpX8, mT_X8_copy, SHl_58, SHl_59, SHl_60, SHl_61, SHl_62, SHl_63, SHl_64, SHl_65, SHl_66, SHl_67, SHl_68, SHl_69, SHl_70, SHl_71, SHl_72, SHl_73, SHl_74, SHl_75, S_X8_found, S_X8_isMissing, S_X8_isPart, S_X8_isRow, S_X8_well, Bool.or_true, Bool.or_false, Bool.true_or, Bool.false_or]
  by_cases hr : 0 ≤ r ∧ r < 8
  · obtain ⟨⟨g1, g2⟩, g3⟩ := hI r.toNat (by omega)
    by_cases hs : 0 ≤ s ∧ s < 8
    · obtain ⟨⟨g4, g5⟩, g6⟩ := hI s.toNat (by omega)
      (repeat' (first | apply And.intro | intro _)) <;> first | omega | (exact main (by omega) (by omega) (by omega) (by omega) (by omega) (by omega) (by omega)) | (repeat (first | rw [if_pos (by omega)] at hq | rw [if_neg (by omega)] at hq)) <;> exact hq
    · (repeat' (first | apply And.intro | intro _)) <;> first | omega | exact hq | (rw [if_pos (by omega)] at hq; exact hq) | (rw [if_neg (by omega)] at hq; exact hq) | (repeat (first | rw [if_pos (by omega)] at hq | rw [if_neg (by omega)] at hq)) <;> exact hq | assumption | exact R32_of _
  · (repeat' (first | apply And.intro | intro _)) <;> first | omega | exact hq | (rw [if_pos (by omega)] at hq; exact hq) | (rw [if_neg (by omega)] at hq; exact hq) | (repeat (first | rw [if_pos (by omega)] at hq | rw [if_neg (by omega)] at hq)) <;> exact hq | assumption | exact R32_of _
def S_X8_chordOf : MSpec := fun a σ Q => match a with
  | [.inr (.inl 58), .inl x] => okV (vM σ 64 0) ∧ ∃ c : Nat, c < ncV (vM σ 64 0) ∧ vM σ 64 0 4 c ≤ x ∧ x < vM σ 64 0 4 c + vM σ 64 0 5 c ∧ Q (some (.inl (c : Int))) σ
  | _ => False
theorem rc_X8_chordOf : ∀ a σ Q, S_X8_chordOf a σ Q → ∃ (p : Nat) (r : List AV), a = .inr (.inl p) :: r ∧ p < 76 ∧ (SH p).1 = 4 ∧ (SH p).2.1 = 7 := by
  intro a σ Q h
  unfold S_X8_chordOf at h
  split at h
  · exact ⟨58, _, rfl, by decide, rfl, rfl⟩
  · exact h.elim
def mT_X8_chordOf (i : Nat) : Option (Nat × Bool × MSpec) := match i with
  | _ => none
theorem mT_X8_chordOf_ok {l : Launch} {n : Nat} (hn : 0 ≤ n) : ∀ i e, mT_X8_chordOf i = some e → mV l (rmOf n) RX8 i e := by
  intro i e h
  unfold mT_X8_chordOf at h
  split at h
  · cases h
set_option maxRecDepth 100000 in
set_option maxHeartbeats 4000000 in
theorem ok_X8_chordOf : ∀ l n, 0 ≤ n → ∀ a σ Q, S_X8_chordOf a σ Q → AM l n yX8_chordOf cX8_chordOf 3 (some .int) a σ Q := by
  intro l n hn a σ Q hS
  unfold S_X8_chordOf at hS
  split at hS
  rotate_left
  · exact hS.elim
  rename_i x
  obtain ⟨hV, C, hC, h1, h2, hq⟩ := hS
  obtain ⟨V, hVe⟩ : ∃ V, V = vM σ 64 0 := ⟨_, rfl⟩
  rw [← hVe] at hV hC h1 h2
  obtain ⟨v0, v1, v2⟩ := vM_0 σ 64
  rw [← hVe] at v0 v1 v2
  obtain ⟨o1, o2, o3, -, oc, on⟩ := id hV
  have hnc : (ncV V : Int) = σ 64 1 := by unfold ncV; rw [v1]; omega
  have oC := oc C (by omega)
  refine am_ofF 1 cpX8 mT_X8_chordOf (plainFor_of_name (by decide +kernel)) (rfl) (Nat.le_of_ble_eq_true rfl) (cpX8_ok) (mT_X8_chordOf_ok hn) (fun K hK => ?_)
  have loop : ∀ (d c : Nat), c + d = C → K 2 [some (.inr (.inl 58)), some (.inl x), some (.inl (c : Int))] [] σ := by
    intro d
    induction d with
    | zero =>
      intro c hc
      obtain ⟨e1, e2, e3, e4, e5⟩ := vM_c (σ := σ) (w := 64) (c := c) (by omega)
      rw [← hVe] at e1 e2 e3 e4 e5
      have hCc : C = c := by omega
      rw [hCc] at h1 h2 hq oC
      refine hK (fun q => q == 2) 60 _ _ _ _ ?_
      simp only [↓wp, ↓stp, ilen, lnth, st1, st2, nolong, nohead, rnth, ↓gfX, ↓pfX, gfV, pfV, cpF, cpP, cndZ, ↓tgo, ↓tsw, ↓lsw, ↓ldI, ↓ldA, ↓ldL, ↓stI, ↓stA, ↓stL, ↓bin, ↓binD, ↓binL, ↓binDL, ↓una, ↓acV, ↓acK, ↓acpy, ↓inv, entL, nones, List.length_cons, List.length_nil, List.take, List.drop, List.reverse_cons, List.reverse_nil, List.nil_append, List.cons_append, Option.toList_some, Option.toList_none, Nat.reduceAdd, Nat.reduceSub, Nat.reduceLT, Nat.reduceEqDiff, Fin.isValue, aTL, aSZ, Int.toNat_natCast, hset_same, hset_o, hset_s, hset_row, ne_eq, Nat.reduceBEq, beq_self_eq_true, Fin.val_zero, Fin.val_one, fin0, fin1, fin2, fin3, Nat.le_refl, Nat.reduceLeDiff, Nat.zero_le, Int.reduceAdd, Int.reduceNeg, Int.reduceLE, Int.reduceLT, Int.reduceToNat, Int.reduceMul, Int.cast_ofNat_Int, Nat.reduceMod, ↓reduceIte, if_true, if_false, and_true, true_and, or_true, true_or, false_or, or_false, and_self, not_true_eq_false, not_false_eq_true, Bool.false_eq_true, reduceCtorEq, false_implies, true_implies, implies_true, and_false, false_and, dX8_chordOf_0, dX8_chordOf_1, dX8_chordOf_2, dX8_chordOf_3, dX8_chordOf_4, dX8_chordOf_7, dX8_chordOf_8, dX8_chordOf_9, dX8_chordOf_10, dX8_chordOf_11, dX8_chordOf_12, dX8_chordOf_13, dX8_chordOf_14, dX8_chordOf_15, dX8_chordOf_16, dX8_chordOf_19, dX8_chordOf_20, dX8_chordOf_21, dX8_chordOf_22, dX8_chordOf_23, dX8_chordOf_24, dX8_chordOf_25, dX8_chordOf_26, dX8_chordOf_27, dX8_chordOf_28, dX8_chordOf_31, dX8_chordOf_34, dX8_chordOf_37, dX8_chordOf_38, cpX8, mT_X8_chordOf, SHl_58, SHl_59, SHl_60, SHl_61, SHl_62, SHl_63, SHl_64, SHl_65, SHl_66, SHl_67, SHl_68, SHl_69, SHl_70, SHl_71, SHl_72, SHl_73, SHl_74, SHl_75, ix1, ix2]
      rw [← e4, ← e5]
      exact ⟨by omega, by omega, by omega, by omega, ⟨by omega, by omega⟩, ⟨by omega, by omega⟩, fun _ => hq, fun q => by omega⟩
    | succ d ih =>
      intro c hc
      obtain ⟨e1, e2, e3, e4, e5⟩ := vM_c (σ := σ) (w := 64) (c := c) (by omega)
      rw [← hVe] at e1 e2 e3 e4 e5
      have occ := oc c (by omega)
      have hm := V4_mono hV (C - c) c (by omega) (by omega)
      rw [show c + (C - c) = C by omega] at hm
      refine hK (fun q => q == 2) 60 _ _ _ _ ?_
      simp only [↓wp, ↓stp, ilen, lnth, st1, st2, nolong, nohead, rnth, ↓gfX, ↓pfX, gfV, pfV, cpF, cpP, cndZ, ↓tgo, ↓tsw, ↓lsw, ↓ldI, ↓ldA, ↓ldL, ↓stI, ↓stA, ↓stL, ↓bin, ↓binD, ↓binL, ↓binDL, ↓una, ↓acV, ↓acK, ↓acpy, ↓inv, entL, nones, List.length_cons, List.length_nil, List.take, List.drop, List.reverse_cons, List.reverse_nil, List.nil_append, List.cons_append, Option.toList_some, Option.toList_none, Nat.reduceAdd, Nat.reduceSub, Nat.reduceLT, Nat.reduceEqDiff, Fin.isValue, aTL, aSZ, Int.toNat_natCast, hset_same, hset_o, hset_s, hset_row, ne_eq, Nat.reduceBEq, beq_self_eq_true, Fin.val_zero, Fin.val_one, fin0, fin1, fin2, fin3, Nat.le_refl, Nat.reduceLeDiff, Nat.zero_le, Int.reduceAdd, Int.reduceNeg, Int.reduceLE, Int.reduceLT, Int.reduceToNat, Int.reduceMul, Int.cast_ofNat_Int, Nat.reduceMod, ↓reduceIte, if_true, if_false, and_true, true_and, or_true, true_or, false_or, or_false, and_self, not_true_eq_false, not_false_eq_true, Bool.false_eq_true, reduceCtorEq, false_implies, true_implies, implies_true, and_false, false_and, dX8_chordOf_0, dX8_chordOf_1, dX8_chordOf_2, dX8_chordOf_3, dX8_chordOf_4, dX8_chordOf_7, dX8_chordOf_8, dX8_chordOf_9, dX8_chordOf_10, dX8_chordOf_11, dX8_chordOf_12, dX8_chordOf_13, dX8_chordOf_14, dX8_chordOf_15, dX8_chordOf_16, dX8_chordOf_19, dX8_chordOf_20, dX8_chordOf_21, dX8_chordOf_22, dX8_chordOf_23, dX8_chordOf_24, dX8_chordOf_25, dX8_chordOf_26, dX8_chordOf_27, dX8_chordOf_28, dX8_chordOf_31, dX8_chordOf_34, dX8_chordOf_37, dX8_chordOf_38, cpX8, mT_X8_chordOf, SHl_58, SHl_59, SHl_60, SHl_61, SHl_62, SHl_63, SHl_64, SHl_65, SHl_66, SHl_67, SHl_68, SHl_69, SHl_70, SHl_71, SHl_72, SHl_73, SHl_74, SHl_75, ix1, ix2]
      rw [← e4, ← e5]
      exact ⟨by omega, by omega, by omega, by omega, ⟨by omega, by omega⟩, ⟨by omega, by omega⟩, fun q => by omega, fun q => ih (c + 1) (by omega)⟩
  refine hK (fun q => q == 2) 60 _ _ _ _ ?_
  simp only [↓wp, ↓stp, ilen, lnth, st1, st2, nolong, nohead, rnth, ↓gfX, ↓pfX, gfV, pfV, cpF, cpP, cndZ, ↓tgo, ↓tsw, ↓lsw, ↓ldI, ↓ldA, ↓ldL, ↓stI, ↓stA, ↓stL, ↓bin, ↓binD, ↓binL, ↓binDL, ↓una, ↓acV, ↓acK, ↓acpy, ↓inv, entL, nones, List.length_cons, List.length_nil, List.take, List.drop, List.reverse_cons, List.reverse_nil, List.nil_append, List.cons_append, Option.toList_some, Option.toList_none, Nat.reduceAdd, Nat.reduceSub, Nat.reduceLT, Nat.reduceEqDiff, Fin.isValue, aTL, aSZ, Int.toNat_natCast, hset_same, hset_o, hset_s, hset_row, ne_eq, Nat.reduceBEq, beq_self_eq_true, Fin.val_zero, Fin.val_one, fin0, fin1, fin2, fin3, Nat.le_refl, Nat.reduceLeDiff, Nat.zero_le, Int.reduceAdd, Int.reduceNeg, Int.reduceLE, Int.reduceLT, Int.reduceToNat, Int.reduceMul, Int.cast_ofNat_Int, Nat.reduceMod, ↓reduceIte, if_true, if_false, and_true, true_and, or_true, true_or, false_or, or_false, and_self, not_true_eq_false, not_false_eq_true, Bool.false_eq_true, reduceCtorEq, false_implies, true_implies, implies_true, and_false, false_and, dX8_chordOf_0, dX8_chordOf_1, dX8_chordOf_2, dX8_chordOf_3, dX8_chordOf_4, dX8_chordOf_7, dX8_chordOf_8, dX8_chordOf_9, dX8_chordOf_10, dX8_chordOf_11, dX8_chordOf_12, dX8_chordOf_13, dX8_chordOf_14, dX8_chordOf_15, dX8_chordOf_16, dX8_chordOf_19, dX8_chordOf_20, dX8_chordOf_21, dX8_chordOf_22, dX8_chordOf_23, dX8_chordOf_24, dX8_chordOf_25, dX8_chordOf_26, dX8_chordOf_27, dX8_chordOf_28, dX8_chordOf_31, dX8_chordOf_34, dX8_chordOf_37, dX8_chordOf_38, cpX8, mT_X8_chordOf, SHl_58, SHl_59, SHl_60, SHl_61, SHl_62, SHl_63, SHl_64, SHl_65, SHl_66, SHl_67, SHl_68, SHl_69, SHl_70, SHl_71, SHl_72, SHl_73, SHl_74, SHl_75]
  exact loop C 0 (by omega)
/-- a snapshot is taken: the last sixteen are kept -/
def ntOk (σ τ : HP) : Prop := only σ τ (fun q => q = 58 ∨ q = 67) ∧ (∀ j, j ≠ 17 → τ 58 j = σ 58 j) ∧ ∃ s : Nat, s ≤ 15 ∧ τ 58 17 = s + 1 ∧ ((σ 58 17 = 16 ∧ s = 15 ∧ ∀ i j, i < 15 → j < 93 → τ 67 (93 * i + j) = σ 67 (93 * (i + 1) + j)) ∨ (σ 58 17 = s ∧ ∀ i j, i < s → j < 93 → τ 67 (93 * i + j) = σ 67 (93 * i + j))) ∧ ∀ j, j < 93 → τ 67 (93 * s + j) = σ 64 j
def S_X8_notes : MSpec := fun a σ Q => match a with
  | [.inr (.inl 58)] => (0 ≤ σ 58 17 ∧ σ 58 17 ≤ 16) ∧ ∀ τ, ntOk σ τ → Q none τ
  | _ => False
theorem rc_X8_notes : ∀ a σ Q, S_X8_notes a σ Q → ∃ (p : Nat) (r : List AV), a = .inr (.inl p) :: r ∧ p < 76 ∧ (SH p).1 = 4 ∧ (SH p).2.1 = 7 := by
  intro a σ Q h
  unfold S_X8_notes at h
  split at h
  · exact ⟨58, _, rfl, by decide, rfl, rfl⟩
  · exact h.elim
def mT_X8_notes (i : Nat) : Option (Nat × Bool × MSpec) := match i with
  | 147 => some (4, false, S_X8_copies)
  | _ => none
theorem mT_X8_notes_ok {l : Launch} {n : Nat} (hn : 1 ≤ n) : ∀ i e, mT_X8_notes i = some e → mV l (rmOf n) RX8 i e := by
  intro i e h
  unfold mT_X8_notes at h
  split at h
  · cases h; exact mvS (lv := 0) mw_X8_copies (by omega) (by decide) (by decide +kernel) (Or.inl (gtm 912 (by decide +kernel) (by decide +kernel))) ok_X8_copies
  · cases h
set_option maxRecDepth 100000 in
set_option maxHeartbeats 4000000 in
theorem ok_X8_notes : ∀ l n, 1 ≤ n → ∀ a σ Q, S_X8_notes a σ Q → AM l n yX8_notes cX8_notes 2 none a σ Q := by
  intro l n hn a σ Q hS
  unfold S_X8_notes at hS
  split at hS
  rotate_left
  · exact hS.elim
  obtain ⟨h1, hq⟩ := hS
  refine am_ofF 0 cpX8 mT_X8_notes (plainFor_of_name (by decide +kernel)) (rfl) (Nat.le_of_ble_eq_true rfl) (cpX8_ok) (mT_X8_notes_ok hn) (fun K hK => ?_)
  have tail : ∀ (s : Nat) τ, s ≤ 15 → only σ τ (fun q => q = 58 ∨ q = 67) → (∀ j, j ≠ 17 → τ 58 j = σ 58 j) → τ 58 17 = s → ((σ 58 17 = 16 ∧ s = 15 ∧ ∀ i j, i < 15 → j < 93 → τ 67 (93 * i + j) = σ 67 (93 * (i + 1) + j)) ∨ (σ 58 17 = s ∧ ∀ i j, i < s → j < 93 → τ 67 (93 * i + j) = σ 67 (93 * i + j))) → ∀ u : Option AV, K 49 [some (.inr (.inl 58)), u] [] τ := by
    intro s τ h15 ho hj hs hd u
    refine hK (fun q => q == 11 || q == 49) 60 _ _ _ _ ?_
    simp only [↓wp, ↓stp, ilen, lnth, st1, st2, nolong, nohead, rnth, ↓gfX, ↓pfX, gfV, pfV, cpF, cpP, cndZ, ↓tgo, ↓tsw, ↓lsw, ↓ldI, ↓ldA, ↓ldL, ↓stI, ↓stA, ↓stL, ↓bin, ↓binD, ↓binL, ↓binDL, ↓una, ↓acV, ↓acK, ↓acpy, ↓inv, entL, nones, List.length_cons, List.length_nil, List.take, List.drop, List.reverse_cons, List.reverse_nil, List.nil_append, List.cons_append, Option.toList_some, Option.toList_none, Nat.reduceAdd, Nat.reduceSub, Nat.reduceLT, Nat.reduceEqDiff, Fin.isValue, aTL, aSZ, Int.toNat_natCast, hset_same, hset_o, hset_s, hset_row, ne_eq, Nat.reduceBEq, beq_self_eq_true, Fin.val_zero, Fin.val_one, fin0, fin1, fin2, fin3, Nat.le_refl, Nat.reduceLeDiff, Nat.zero_le, Int.reduceAdd, Int.reduceNeg, Int.reduceLE, Int.reduceLT, Int.reduceToNat, Int.reduceMul, Int.cast_ofNat_Int, Nat.reduceMod, ↓reduceIte, if_true, if_false, and_true, true_and, or_true, true_or, false_or, or_false, and_self, not_true_eq_false, not_false_eq_true, Bool.false_eq_true, reduceCtorEq, false_implies, true_implies, implies_true, and_false, false_and, dX8_notes_0, dX8_notes_1, dX8_notes_4, dX8_notes_6, dX8_notes_9, dX8_notes_10, dX8_notes_11, dX8_notes_12, dX8_notes_15, dX8_notes_18, dX8_notes_19, dX8_notes_22, dX8_notes_23, dX8_notes_24, dX8_notes_27, dX8_notes_28, dX8_notes_30, dX8_notes_31, dX8_notes_32, dX8_notes_33, dX8_notes_36, dX8_notes_39, dX8_notes_40, dX8_notes_41, dX8_notes_44, dX8_notes_45, dX8_notes_46, dX8_notes_49, dX8_notes_50, dX8_notes_53, dX8_notes_54, dX8_notes_55, dX8_notes_58, dX8_notes_60, dX8_notes_61, dX8_notes_64, dX8_notes_65, dX8_notes_68, dX8_notes_69, dX8_notes_70, dX8_notes_73, dX8_notes_74, dX8_notes_75, dX8_notes_78, cpX8, mT_X8_notes, SHl_58, SHl_59, SHl_60, SHl_61, SHl_62, SHl_63, SHl_64, SHl_65, SHl_66, SHl_67, SHl_68, SHl_69, SHl_70, SHl_71, SHl_72, SHl_73, SHl_74, SHl_75, S_X8_copies, Bool.or_true, Bool.or_false, Bool.true_or, Bool.false_or]
    rw [hs, hcpy_f (q := 58) (by decide), hs]
    refine ⟨93, 1488, rfl, rfl, by omega, by omega, by omega, by omega, hq _ ⟨?_, ?_, s, h15, hset_same, ?_, ?_⟩⟩
    · refine only_set (fun q hqq => ?_) (Or.inl rfl)
      rw [hcpy_f (by omega)]
      exact ho q hqq
    · intro j hjj
      rw [hset_s hjj, hcpy_f (by decide)]
      exact hj j hjj
    · rcases hd with ⟨g1, g2, g3⟩ | ⟨g1, g3⟩
      · refine Or.inl ⟨g1, g2, fun i j hi hjj => ?_⟩
        rw [hset_o (by decide), hcpy_out (by omega)]
        exact g3 i j hi hjj
      · refine Or.inr ⟨g1, fun i j hi hjj => ?_⟩
        rw [hset_o (by decide), hcpy_out (by omega)]
        exact g3 i j hi hjj
    · intro j hjj
      rw [hset_o (by decide)]
      have := hcpy_in (σ := τ) (f := 64) (t := 67) (a := 0) (b := 93 * (s : Int)) (n := 93) j (by omega)
      rw [show (93 * (s : Int)).toNat = 93 * s by omega, show (0 : Int).toNat + j = j by omega, ho 64 (by decide)] at this
      exact this
  have loop : σ 58 17 = 16 → ∀ (d i : Nat), i + d = 1395 → K 11 [some (.inr (.inl 58)), some (.inl (i : Int))] [] (hcpy σ 67 93 67 0 (i : Int)) := by
    intro h16 d
    induction d with
    | zero =>
      intro i hi
      have hx := tail 15 (hset (hcpy σ 67 93 67 0 (i : Int)) 58 17 15) (by omega) (only_set (fun q hqq => hcpy_f (by omega)) (Or.inl rfl)) (fun j hj => by rw [hset_s hj, hcpy_f (by decide)]) hset_same (Or.inl ⟨h16, rfl, fun a j ha hjj => by
        rw [hset_o (by decide)]
        have := hcpy_in (σ := σ) (f := 67) (t := 67) (a := 93) (b := 0) (n := (i : Int)) (93 * a + j) (by omega)
        rw [show (0 : Int).toNat + (93 * a + j) = 93 * a + j by omega, show (93 : Int).toNat + (93 * a + j) = 93 * (a + 1) + j by omega] at this
        exact this⟩) (some (.inl (i : Int)))
      refine hK (fun q => q == 11 || q == 49) 60 _ _ _ _ ?_
      simp only [↓wp, ↓stp, ilen, lnth, st1, st2, nolong, nohead, rnth, ↓gfX, ↓pfX, gfV, pfV, cpF, cpP, cndZ, ↓tgo, ↓tsw, ↓lsw, ↓ldI, ↓ldA, ↓ldL, ↓stI, ↓stA, ↓stL, ↓bin, ↓binD, ↓binL, ↓binDL, ↓una, ↓acV, ↓acK, ↓acpy, ↓inv, entL, nones, List.length_cons, List.length_nil, List.take, List.drop, List.reverse_cons, List.reverse_nil, List.nil_append, List.cons_append, Option.toList_some, Option.toList_none, Nat.reduceAdd, Nat.reduceSub, Nat.reduceLT, Nat.reduceEqDiff, Fin.isValue, aTL, aSZ, Int.toNat_natCast, hset_same, hset_o, hset_s, hset_row, ne_eq, Nat.reduceBEq, beq_self_eq_true, Fin.val_zero, Fin.val_one, fin0, fin1, fin2, fin3, Nat.le_refl, Nat.reduceLeDiff, Nat.zero_le, Int.reduceAdd, Int.reduceNeg, Int.reduceLE, Int.reduceLT, Int.reduceToNat, Int.reduceMul, Int.cast_ofNat_Int, Nat.reduceMod, ↓reduceIte, if_true, if_false, and_true, true_and, or_true, true_or, false_or, or_false, and_self, not_true_eq_false, not_false_eq_true, Bool.false_eq_true, reduceCtorEq, false_implies, true_implies, implies_true, and_false, false_and, dX8_notes_0, dX8_notes_1, dX8_notes_4, dX8_notes_6, dX8_notes_9, dX8_notes_10, dX8_notes_11, dX8_notes_12, dX8_notes_15, dX8_notes_18, dX8_notes_19, dX8_notes_22, dX8_notes_23, dX8_notes_24, dX8_notes_27, dX8_notes_28, dX8_notes_30, dX8_notes_31, dX8_notes_32, dX8_notes_33, dX8_notes_36, dX8_notes_39, dX8_notes_40, dX8_notes_41, dX8_notes_44, dX8_notes_45, dX8_notes_46, dX8_notes_49, dX8_notes_50, dX8_notes_53, dX8_notes_54, dX8_notes_55, dX8_notes_58, dX8_notes_60, dX8_notes_61, dX8_notes_64, dX8_notes_65, dX8_notes_68, dX8_notes_69, dX8_notes_70, dX8_notes_73, dX8_notes_74, dX8_notes_75, dX8_notes_78, cpX8, mT_X8_notes, SHl_58, SHl_59, SHl_60, SHl_61, SHl_62, SHl_63, SHl_64, SHl_65, SHl_66, SHl_67, SHl_68, SHl_69, SHl_70, SHl_71, SHl_72, SHl_73, SHl_74, SHl_75, S_X8_copies, Bool.or_true, Bool.or_false, Bool.true_or, Bool.false_or]
      rw [hcpy_f (q := 58) (by decide), h16]
      exact ⟨⟨by omega, by omega⟩, ⟨by omega, by omega⟩, fun q => hx, fun q => by omega⟩
    | succ d ih =>
      intro i hi
      refine hK (fun q => q == 11 || q == 49) 60 _ _ _ _ ?_
      simp only [↓wp, ↓stp, ilen, lnth, st1, st2, nolong, nohead, rnth, ↓gfX, ↓pfX, gfV, pfV, cpF, cpP, cndZ, ↓tgo, ↓tsw, ↓lsw, ↓ldI, ↓ldA, ↓ldL, ↓stI, ↓stA, ↓stL, ↓bin, ↓binD, ↓binL, ↓binDL, ↓una, ↓acV, ↓acK, ↓acpy, ↓inv, entL, nones, List.length_cons, List.length_nil, List.take, List.drop, List.reverse_cons, List.reverse_nil, List.nil_append, List.cons_append, Option.toList_some, Option.toList_none, Nat.reduceAdd, Nat.reduceSub, Nat.reduceLT, Nat.reduceEqDiff, Fin.isValue, aTL, aSZ, Int.toNat_natCast, hset_same, hset_o, hset_s, hset_row, ne_eq, Nat.reduceBEq, beq_self_eq_true, Fin.val_zero, Fin.val_one, fin0, fin1, fin2, fin3, Nat.le_refl, Nat.reduceLeDiff, Nat.zero_le, Int.reduceAdd, Int.reduceNeg, Int.reduceLE, Int.reduceLT, Int.reduceToNat, Int.reduceMul, Int.cast_ofNat_Int, Nat.reduceMod, ↓reduceIte, if_true, if_false, and_true, true_and, or_true, true_or, false_or, or_false, and_self, not_true_eq_false, not_false_eq_true, Bool.false_eq_true, reduceCtorEq, false_implies, true_implies, implies_true, and_false, false_and, dX8_notes_0, dX8_notes_1, dX8_notes_4, dX8_notes_6, dX8_notes_9, dX8_notes_10, dX8_notes_11, dX8_notes_12, dX8_notes_15, dX8_notes_18, dX8_notes_19, dX8_notes_22, dX8_notes_23, dX8_notes_24, dX8_notes_27, dX8_notes_28, dX8_notes_30, dX8_notes_31, dX8_notes_32, dX8_notes_33, dX8_notes_36, dX8_notes_39, dX8_notes_40, dX8_notes_41, dX8_notes_44, dX8_notes_45, dX8_notes_46, dX8_notes_49, dX8_notes_50, dX8_notes_53, dX8_notes_54, dX8_notes_55, dX8_notes_58, dX8_notes_60, dX8_notes_61, dX8_notes_64, dX8_notes_65, dX8_notes_68, dX8_notes_69, dX8_notes_70, dX8_notes_73, dX8_notes_74, dX8_notes_75, dX8_notes_78, cpX8, mT_X8_notes, SHl_58, SHl_59, SHl_60, SHl_61, SHl_62, SHl_63, SHl_64, SHl_65, SHl_66, SHl_67, SHl_68, SHl_69, SHl_70, SHl_71, SHl_72, SHl_73, SHl_74, SHl_75, S_X8_copies, Bool.or_true, Bool.or_false, Bool.true_or, Bool.false_or]
      refine ⟨⟨by omega, by omega⟩, ⟨by omega, by omega⟩, fun q => by omega, fun q => ⟨by omega, by omega, by omega, by omega, ?_⟩⟩
      have := ih (i + 1) (by omega)
      rw [show ((i + 1 : Nat) : Int) = (i : Int) + 1 by omega, ← hcpy_s _ _ _ _ _ i (by omega) (by omega), show (0 + (i : Int)).toNat = i by omega] at this
      rw [hcpy_out (by omega), show ((i : Int) + 93).toNat = (93 + (i : Int)).toNat by omega]
      exact this
  refine hK (fun q => q == 11 || q == 49) 60 _ _ _ _ ?_
  simp only [↓wp, ↓stp, ilen, lnth, st1, st2, nolong, nohead, rnth, ↓gfX, ↓pfX, gfV, pfV, cpF, cpP, cndZ, ↓tgo, ↓tsw, ↓lsw, ↓ldI, ↓ldA, ↓ldL, ↓stI, ↓stA, ↓stL, ↓bin, ↓binD, ↓binL, ↓binDL, ↓una, ↓acV, ↓acK, ↓acpy, ↓inv, entL, nones, List.length_cons, List.length_nil, List.take, List.drop, List.reverse_cons, List.reverse_nil, List.nil_append, List.cons_append, Option.toList_some, Option.toList_none, Nat.reduceAdd, Nat.reduceSub, Nat.reduceLT, Nat.reduceEqDiff, Fin.isValue, aTL, aSZ, Int.toNat_natCast, hset_same, hset_o, hset_s, hset_row, ne_eq, Nat.reduceBEq, beq_self_eq_true, Fin.val_zero, Fin.val_one, fin0, fin1, fin2, fin3, Nat.le_refl, Nat.reduceLeDiff, Nat.zero_le, Int.reduceAdd, Int.reduceNeg, Int.reduceLE, Int.reduceLT, Int.reduceToNat, Int.reduceMul, Int.cast_ofNat_Int, Nat.reduceMod, ↓reduceIte, if_true, if_false, and_true, true_and, or_true, true_or, false_or, or_false, and_self, not_true_eq_false, not_false_eq_true, Bool.false_eq_true, reduceCtorEq, false_implies, true_implies, implies_true, and_false, false_and, dX8_notes_0, dX8_notes_1, dX8_notes_4, dX8_notes_6, dX8_notes_9, dX8_notes_10, dX8_notes_11, dX8_notes_12, dX8_notes_15, dX8_notes_18, dX8_notes_19, dX8_notes_22, dX8_notes_23, dX8_notes_24, dX8_notes_27, dX8_notes_28, dX8_notes_30, dX8_notes_31, dX8_notes_32, dX8_notes_33, dX8_notes_36, dX8_notes_39, dX8_notes_40, dX8_notes_41, dX8_notes_44, dX8_notes_45, dX8_notes_46, dX8_notes_49, dX8_notes_50, dX8_notes_53, dX8_notes_54, dX8_notes_55, dX8_notes_58, dX8_notes_60, dX8_notes_61, dX8_notes_64, dX8_notes_65, dX8_notes_68, dX8_notes_69, dX8_notes_70, dX8_notes_73, dX8_notes_74, dX8_notes_75, dX8_notes_78, cpX8, mT_X8_notes, SHl_58, SHl_59, SHl_60, SHl_61, SHl_62, SHl_63, SHl_64, SHl_65, SHl_66, SHl_67, SHl_68, SHl_69, SHl_70, SHl_71, SHl_72, SHl_73, SHl_74, SHl_75, S_X8_copies, Bool.or_true, Bool.or_false, Bool.true_or, Bool.false_or]
  refine ⟨⟨by omega, by omega⟩, ⟨by omega, by omega⟩, fun q => ?_, fun q => ?_⟩
  · obtain ⟨s, hs⟩ : ∃ s : Nat, σ 58 17 = s := ⟨(σ 58 17).toNat, by omega⟩
    exact tail s σ (by omega) (fun q _ => rfl) (fun j _ => rfl) hs (Or.inr ⟨hs, fun i j _ _ => rfl⟩) _
  · have hx := loop (by omega) 1395 0 (by omega)
    rw [show ((0 : Nat) : Int) = 0 by omega, hcpy_0] at hx
    exact hx
/-- what the reference's piece is -/
def nowOk (σ : HP) : Prop := okV (vM σ 64 0) ∧ (0 ≤ σ 58 17 ∧ σ 58 17 ≤ 16)
def S_X8_key : MSpec := fun a σ Q => match a with
  | [.inr (.inl 58), .inl k, .inl v] => R32 k ∧ R32 v ∧ nowOk σ ∧ (if ¬ (0 ≤ k ∧ k < σ 64 2) ∨ ¬ (0 ≤ v ∧ v < 12) then Q (some (.inl (-1000001))) σ else if σ 64 (53 + k).toNat = v then Q (some (.inl (-1000002))) σ else ∀ τ, ntOk σ τ → Q (some (.inl (σ 64 (53 + k).toNat))) (hset τ 64 (53 + k).toNat v))
  | _ => False
theorem rc_X8_key : ∀ a σ Q, S_X8_key a σ Q → ∃ (p : Nat) (r : List AV), a = .inr (.inl p) :: r ∧ p < 76 ∧ (SH p).1 = 4 ∧ (SH p).2.1 = 7 := by
  intro a σ Q h
  unfold S_X8_key at h
  split at h
  · exact ⟨58, _, rfl, by decide, rfl, rfl⟩
  · exact h.elim
def mT_X8_key (i : Nat) : Option (Nat × Bool × MSpec) := match i with
  | 68 => some (3, false, S_X8_in)
  | 205 => some (2, true, S_X8_isNote)
  | 209 => some (1, true, S_X8_notes)
  | _ => none
theorem mT_X8_key_ok {l : Launch} {n : Nat} (hn : 2 ≤ n) : ∀ i e, mT_X8_key i = some e → mV l (rmOf n) RX8 i e := by
  intro i e h
  unfold mT_X8_key at h
  split at h
  · cases h; exact mvS (lv := 0) mw_X8_in (by omega) (by decide) (by decide +kernel) (Or.inl (gtm 831 (by decide +kernel) (by decide +kernel))) ok_X8_in
  · cases h; exact mvI (lv := 1) (ci := 7) (T := TX8) (N := 28) mw_X8_isNote rfl (by omega) (by decide) (by decide +kernel) (gtm 923 (by decide +kernel) (by decide +kernel)) rc_X8_isNote ok_X8_isNote
  · cases h; exact mvI (lv := 1) (ci := 7) (T := TX8) (N := 28) mw_X8_notes rfl (by omega) (by decide) (by decide +kernel) (gtm 928 (by decide +kernel) (by decide +kernel)) rc_X8_notes ok_X8_notes
  · cases h
set_option maxRecDepth 100000 in
set_option maxHeartbeats 4000000 in
theorem ok_X8_key : ∀ l n, 2 ≤ n → ∀ a σ Q, S_X8_key a σ Q → AM l n yX8_key cX8_key 4 (some .int) a σ Q := by
  intro l n hn a σ Q hS
  unfold S_X8_key at hS
  split at hS
  rotate_left
  · exact hS.elim
  rename_i k v
  obtain ⟨⟨k1, k2⟩, ⟨v1, v2⟩, hN, hq⟩ := hS
  refine am_ofF 1 cpX8 mT_X8_key (plainFor_of_name (by decide +kernel)) (rfl) (Nat.le_of_ble_eq_true rfl) (cpX8_ok) (mT_X8_key_ok hn) (fun K hK => ?_)
  refine hK (fun _ => false) 200 _ _ _ _ ?_
  simp only [↓wp, ↓stp, ilen, lnth, st1, st2, nolong, nohead, rnth, ↓gfX, ↓pfX, gfV, pfV, cpF, cpP, cndZ, ↓tgo, ↓tsw, ↓lsw, ↓ldI, ↓ldA, ↓ldL, ↓stI, ↓stA, ↓stL, ↓bin, ↓binD, ↓binL, ↓binDL, ↓una, ↓acV, ↓acK, ↓acpy, ↓inv, entL, nones, List.length_cons, List.length_nil, List.take, List.drop, List.reverse_cons, List.reverse_nil, List.nil_append, List.cons_append, Option.toList_some, Option.toList_none, Nat.reduceAdd, Nat.reduceSub, Nat.reduceLT, Nat.reduceEqDiff, Fin.isValue, aTL, aSZ, Int.toNat_natCast, hset_same, hset_o, hset_s, hset_row, ne_eq, Nat.reduceBEq, beq_self_eq_true, Fin.val_zero, Fin.val_one, fin0, fin1, fin2, fin3, Nat.le_refl, Nat.reduceLeDiff, Nat.zero_le, Int.reduceAdd, Int.reduceNeg, Int.reduceLE, Int.reduceLT, Int.reduceToNat, Int.reduceMul, Int.cast_ofNat_Int, Nat.reduceMod, ↓reduceIte, if_true, if_false, and_true, true_and, or_true, true_or, false_or, or_false, and_self, not_true_eq_false, not_false_eq_true, Bool.false_eq_true, reduceCtorEq, false_implies, true_implies, implies_true, and_false, false_and, dX8_key_0, dX8_key_1, dX8_key_2, dX8_key_5, dX8_key_8, dX8_key_9, dX8_key_10, dX8_key_12, dX8_key_15, dX8_key_18, dX8_key_20, dX8_key_21, dX8_key_22, dX8_key_25, dX8_key_27, dX8_key_28, dX8_key_29, dX8_key_30, dX8_key_31, dX8_key_32, dX8_key_33, dX8_key_36, dX8_key_38, dX8_key_39, dX8_key_40, dX8_key_43, dX8_key_44, dX8_key_47, dX8_key_49, dX8_key_50, dX8_key_51, dX8_key_52, dX8_key_53, dX8_key_54, cpX8, mT_X8_key, SHl_58, SHl_59, SHl_60, SHl_61, SHl_62, SHl_63, SHl_64, SHl_65, SHl_66, SHl_67, SHl_68, SHl_69, SHl_70, SHl_71, SHl_72, SHl_73, SHl_74, SHl_75, S_X8_in, S_X8_isNote, S_X8_notes]
  obtain ⟨hV, hA⟩ := hN
  obtain ⟨w0, w1, w2⟩ := vM_0 σ 64
  obtain ⟨o1, o2, o3, -, oc, on⟩ := id hV
  by_cases hk : 0 ≤ k ∧ k < σ 64 2
  · have hn := on k.toNat (by omega)
    rw [vM_n (by omega), show 53 + k.toNat = (53 + k).toNat by omega] at hn
    (repeat' (first | apply And.intro | intro _)) <;> first | omega | (repeat (first | rw [if_pos (by omega)] at hq | rw [if_neg (by omega)] at hq)) <;> first | exact hq | exact hq _ ‹_›
  · (repeat' (first | apply And.intro | intro _)) <;> first | omega | exact hq | (rw [if_pos (by omega)] at hq; exact hq) | (rw [if_neg (by omega)] at hq; exact hq) | (repeat (first | rw [if_pos (by omega)] at hq | rw [if_neg (by omega)] at hq)) <;> exact hq | assumption | exact R32_of _
def S_X8_become : MSpec := fun a σ Q => match a with
  | [.inr (.inl 58), .inl k, .inl v] => R32 k ∧ R32 v ∧ nowOk σ ∧ (if ¬ (0 ≤ k ∧ k < σ 64 1) ∨ ¬ (1 ≤ v ∧ v ≤ 5) then Q (some (.inl (-1000001))) σ else if σ 64 (3 + 5 * k).toNat = v then Q (some (.inl (-1000002))) σ else ∀ τ, ntOk σ τ → Q (some (.inl (σ 64 (3 + 5 * k).toNat))) (hset τ 64 (3 + 5 * k).toNat v))
  | _ => False
theorem rc_X8_become : ∀ a σ Q, S_X8_become a σ Q → ∃ (p : Nat) (r : List AV), a = .inr (.inl p) :: r ∧ p < 76 ∧ (SH p).1 = 4 ∧ (SH p).2.1 = 7 := by
  intro a σ Q h
  unfold S_X8_become at h
  split at h
  · exact ⟨58, _, rfl, by decide, rfl, rfl⟩
  · exact h.elim
def mT_X8_become (i : Nat) : Option (Nat × Bool × MSpec) := match i with
  | 68 => some (3, false, S_X8_in)
  | 209 => some (1, true, S_X8_notes)
  | 212 => some (2, true, S_X8_isChord)
  | _ => none
theorem mT_X8_become_ok {l : Launch} {n : Nat} (hn : 2 ≤ n) : ∀ i e, mT_X8_become i = some e → mV l (rmOf n) RX8 i e := by
  intro i e h
  unfold mT_X8_become at h
  split at h
  · cases h; exact mvS (lv := 0) mw_X8_in (by omega) (by decide) (by decide +kernel) (Or.inl (gtm 831 (by decide +kernel) (by decide +kernel))) ok_X8_in
  · cases h; exact mvI (lv := 1) (ci := 7) (T := TX8) (N := 28) mw_X8_notes rfl (by omega) (by decide) (by decide +kernel) (gtm 928 (by decide +kernel) (by decide +kernel)) rc_X8_notes ok_X8_notes
  · cases h; exact mvI (lv := 1) (ci := 7) (T := TX8) (N := 28) mw_X8_isChord rfl (by omega) (by decide) (by decide +kernel) (gtm 936 (by decide +kernel) (by decide +kernel)) rc_X8_isChord ok_X8_isChord
  · cases h
set_option maxRecDepth 100000 in
set_option maxHeartbeats 4000000 in
theorem ok_X8_become : ∀ l n, 2 ≤ n → ∀ a σ Q, S_X8_become a σ Q → AM l n yX8_become cX8_become 4 (some .int) a σ Q := by
  intro l n hn a σ Q hS
  unfold S_X8_become at hS
  split at hS
  rotate_left
  · exact hS.elim
  rename_i k v
  obtain ⟨⟨k1, k2⟩, ⟨v1, v2⟩, hN, hq⟩ := hS
  refine am_ofF 1 cpX8 mT_X8_become (plainFor_of_name (by decide +kernel)) (rfl) (Nat.le_of_ble_eq_true rfl) (cpX8_ok) (mT_X8_become_ok hn) (fun K hK => ?_)
  refine hK (fun _ => false) 200 _ _ _ _ ?_
  simp only [↓wp, ↓stp, ilen, lnth, st1, st2, nolong, nohead, rnth, ↓gfX, ↓pfX, gfV, pfV, cpF, cpP, cndZ, ↓tgo, ↓tsw, ↓lsw, ↓ldI, ↓ldA, ↓ldL, ↓stI, ↓stA, ↓stL, ↓bin, ↓binD, ↓binL, ↓binDL, ↓una, ↓acV, ↓acK, ↓acpy, ↓inv, entL, nones, List.length_cons, List.length_nil, List.take, List.drop, List.reverse_cons, List.reverse_nil, List.nil_append, List.cons_append, Option.toList_some, Option.toList_none, Nat.reduceAdd, Nat.reduceSub, Nat.reduceLT, Nat.reduceEqDiff, Fin.isValue, aTL, aSZ, Int.toNat_natCast, hset_same, hset_o, hset_s, hset_row, ne_eq, Nat.reduceBEq, beq_self_eq_true, Fin.val_zero, Fin.val_one, fin0, fin1, fin2, fin3, Nat.le_refl, Nat.reduceLeDiff, Nat.zero_le, Int.reduceAdd, Int.reduceNeg, Int.reduceLE, Int.reduceLT, Int.reduceToNat, Int.reduceMul, Int.cast_ofNat_Int, Nat.reduceMod, ↓reduceIte, if_true, if_false, and_true, true_and, or_true, true_or, false_or, or_false, and_self, not_true_eq_false, not_false_eq_true, Bool.false_eq_true, reduceCtorEq, false_implies, true_implies, implies_true, and_false, false_and, dX8_become_0, dX8_become_1, dX8_become_2, dX8_become_5, dX8_become_8, dX8_become_9, dX8_become_10, dX8_become_11, dX8_become_14, dX8_become_17, dX8_become_19, dX8_become_20, dX8_become_21, dX8_become_24, dX8_become_25, dX8_become_26, dX8_become_27, dX8_become_28, dX8_become_29, dX8_become_30, dX8_become_31, dX8_become_32, dX8_become_33, dX8_become_36, dX8_become_38, dX8_become_39, dX8_become_40, dX8_become_43, dX8_become_44, dX8_become_47, dX8_become_48, dX8_become_49, dX8_become_50, dX8_become_51, dX8_become_52, dX8_become_53, dX8_become_54, dX8_become_55, cpX8, mT_X8_become, SHl_58, SHl_59, SHl_60, SHl_61, SHl_62, SHl_63, SHl_64, SHl_65, SHl_66, SHl_67, SHl_68, SHl_69, SHl_70, SHl_71, SHl_72, SHl_73, SHl_74, SHl_75, S_X8_in, S_X8_isChord, S_X8_notes]
  obtain ⟨hV, hA⟩ := hN
  obtain ⟨w0, w1, w2⟩ := vM_0 σ 64
  obtain ⟨o1, o2, o3, -, oc, on⟩ := id hV
  by_cases hk : 0 ≤ k ∧ k < σ 64 1
  · have hn := (oc k.toNat (by omega)).1
    rw [(vM_c (by omega)).1, show 5 * k.toNat + 3 = (3 + 5 * k).toNat by omega] at hn
    (repeat' (first | apply And.intro | intro _)) <;> first | omega | (repeat (first | rw [if_pos (by omega)] at hq | rw [if_neg (by omega)] at hq)) <;> first | exact hq | exact hq _ ‹_›
  · (repeat' (first | apply And.intro | intro _)) <;> first | omega | exact hq | (rw [if_pos (by omega)] at hq; exact hq) | (rw [if_neg (by omega)] at hq; exact hq) | (repeat (first | rw [if_pos (by omega)] at hq | rw [if_neg (by omega)] at hq)) <;> exact hq | assumption | exact R32_of _
def S_X8_sign : MSpec := fun a σ Q => match a with
  | [.inr (.inl 58), .inl v] => R32 v ∧ nowOk σ ∧ (if σ 64 1 = 0 then Q (some (.inl (-1000002))) σ else if ¬ (0 ≤ v ∧ v < 15) then Q (some (.inl (-1000001))) σ else if σ 64 0 = v then Q (some (.inl (-1000002))) σ else ∀ τ, ntOk σ τ → Q (some (.inl (σ 64 0))) (hset τ 64 0 v))
  | _ => False
theorem rc_X8_sign : ∀ a σ Q, S_X8_sign a σ Q → ∃ (p : Nat) (r : List AV), a = .inr (.inl p) :: r ∧ p < 76 ∧ (SH p).1 = 4 ∧ (SH p).2.1 = 7 := by
  intro a σ Q h
  unfold S_X8_sign at h
  split at h
  · exact ⟨58, _, rfl, by decide, rfl, rfl⟩
  · exact h.elim
def mT_X8_sign (i : Nat) : Option (Nat × Bool × MSpec) := match i with
  | 68 => some (3, false, S_X8_in)
  | 209 => some (1, true, S_X8_notes)
  | 215 => some (1, true, S_X8_isPiece)
  | _ => none
theorem mT_X8_sign_ok {l : Launch} {n : Nat} (hn : 2 ≤ n) : ∀ i e, mT_X8_sign i = some e → mV l (rmOf n) RX8 i e := by
  intro i e h
  unfold mT_X8_sign at h
  split at h
  · cases h; exact mvS (lv := 0) mw_X8_in (by omega) (by decide) (by decide +kernel) (Or.inl (gtm 831 (by decide +kernel) (by decide +kernel))) ok_X8_in
  · cases h; exact mvI (lv := 1) (ci := 7) (T := TX8) (N := 28) mw_X8_notes rfl (by omega) (by decide) (by decide +kernel) (gtm 928 (by decide +kernel) (by decide +kernel)) rc_X8_notes ok_X8_notes
  · cases h; exact mvI (lv := 0) (ci := 7) (T := TX8) (N := 28) mw_X8_isPiece rfl (by omega) (by decide) (by decide +kernel) (gtm 944 (by decide +kernel) (by decide +kernel)) rc_X8_isPiece ok_X8_isPiece
  · cases h
set_option maxRecDepth 100000 in
set_option maxHeartbeats 4000000 in
theorem ok_X8_sign : ∀ l n, 2 ≤ n → ∀ a σ Q, S_X8_sign a σ Q → AM l n yX8_sign cX8_sign 3 (some .int) a σ Q := by
  intro l n hn a σ Q hS
  unfold S_X8_sign at hS
  split at hS
  rotate_left
  · exact hS.elim
  rename_i v
  obtain ⟨⟨v1, v2⟩, hN, hq⟩ := hS
  refine am_ofF 1 cpX8 mT_X8_sign (plainFor_of_name (by decide +kernel)) (rfl) (Nat.le_of_ble_eq_true rfl) (cpX8_ok) (mT_X8_sign_ok hn) (fun K hK => ?_)
  refine hK (fun _ => false) 200 _ _ _ _ ?_
  simp only [↓wp, ↓stp, ilen, lnth, st1, st2, nolong, nohead, rnth, ↓gfX, ↓pfX, gfV, pfV, cpF, cpP, cndZ, ↓tgo, ↓tsw, ↓lsw, ↓ldI, ↓ldA, ↓ldL, ↓stI, ↓stA, ↓stL, ↓bin, ↓binD, ↓binL, ↓binDL, ↓una, ↓acV, ↓acK, ↓acpy, ↓inv, entL, nones, List.length_cons, List.length_nil, List.take, List.drop, List.reverse_cons, List.reverse_nil, List.nil_append, List.cons_append, Option.toList_some, Option.toList_none, Nat.reduceAdd, Nat.reduceSub, Nat.reduceLT, Nat.reduceEqDiff, Fin.isValue, aTL, aSZ, Int.toNat_natCast, hset_same, hset_o, hset_s, hset_row, ne_eq, Nat.reduceBEq, beq_self_eq_true, Fin.val_zero, Fin.val_one, fin0, fin1, fin2, fin3, Nat.le_refl, Nat.reduceLeDiff, Nat.zero_le, Int.reduceAdd, Int.reduceNeg, Int.reduceLE, Int.reduceLT, Int.reduceToNat, Int.reduceMul, Int.cast_ofNat_Int, Nat.reduceMod, ↓reduceIte, if_true, if_false, and_true, true_and, or_true, true_or, false_or, or_false, and_self, not_true_eq_false, not_false_eq_true, Bool.false_eq_true, reduceCtorEq, false_implies, true_implies, implies_true, and_false, false_and, dX8_sign_0, dX8_sign_1, dX8_sign_4, dX8_sign_7, dX8_sign_9, dX8_sign_10, dX8_sign_11, dX8_sign_12, dX8_sign_14, dX8_sign_17, dX8_sign_20, dX8_sign_22, dX8_sign_23, dX8_sign_24, dX8_sign_27, dX8_sign_28, dX8_sign_29, dX8_sign_30, dX8_sign_31, dX8_sign_32, dX8_sign_35, dX8_sign_37, dX8_sign_38, dX8_sign_39, dX8_sign_42, dX8_sign_43, dX8_sign_46, dX8_sign_47, dX8_sign_48, dX8_sign_49, dX8_sign_50, cpX8, mT_X8_sign, SHl_58, SHl_59, SHl_60, SHl_61, SHl_62, SHl_63, SHl_64, SHl_65, SHl_66, SHl_67, SHl_68, SHl_69, SHl_70, SHl_71, SHl_72, SHl_73, SHl_74, SHl_75, S_X8_in, S_X8_isPiece, S_X8_notes]
  obtain ⟨hV, hA⟩ := hN
  obtain ⟨w0, w1, w2⟩ := vM_0 σ 64
  obtain ⟨o1, o2, o3, -, oc, on⟩ := id hV
  (repeat' (first | apply And.intro | intro _)) <;> first | omega | (repeat (first | rw [if_pos (by omega)] at hq | rw [if_neg (by omega)] at hq)) <;> first | exact hq | exact hq _ ‹_›
def S_X8_undo : MSpec := fun a σ Q => match a with
  | [.inr (.inl 58)] => (0 ≤ σ 58 17 ∧ σ 58 17 ≤ 16) ∧ (if σ 58 17 = 0 then Q (some (.inl (-1000002))) σ else Q (some (.inl (σ 58 17 - 1))) (hcpy (hset σ 58 17 (σ 58 17 - 1)) 67 (93 * (σ 58 17 - 1)) 64 0 93))
  | _ => False
theorem rc_X8_undo : ∀ a σ Q, S_X8_undo a σ Q → ∃ (p : Nat) (r : List AV), a = .inr (.inl p) :: r ∧ p < 76 ∧ (SH p).1 = 4 ∧ (SH p).2.1 = 7 := by
  intro a σ Q h
  unfold S_X8_undo at h
  split at h
  · exact ⟨58, _, rfl, by decide, rfl, rfl⟩
  · exact h.elim
def mT_X8_undo (i : Nat) : Option (Nat × Bool × MSpec) := match i with
  | 147 => some (4, false, S_X8_copies)
  | _ => none
theorem mT_X8_undo_ok {l : Launch} {n : Nat} (hn : 1 ≤ n) : ∀ i e, mT_X8_undo i = some e → mV l (rmOf n) RX8 i e := by
  intro i e h
  unfold mT_X8_undo at h
  split at h
  · cases h; exact mvS (lv := 0) mw_X8_copies (by omega) (by decide) (by decide +kernel) (Or.inl (gtm 912 (by decide +kernel) (by decide +kernel))) ok_X8_copies
  · cases h
set_option maxRecDepth 100000 in
set_option maxHeartbeats 4000000 in
theorem ok_X8_undo : ∀ l n, 1 ≤ n → ∀ a σ Q, S_X8_undo a σ Q → AM l n yX8_undo cX8_undo 1 (some .int) a σ Q := by
  intro l n hn a σ Q hS
  unfold S_X8_undo at hS
  split at hS
  rotate_left
  · exact hS.elim
  obtain ⟨hA, hq⟩ := hS
  refine am_ofF 1 cpX8 mT_X8_undo (plainFor_of_name (by decide +kernel)) (rfl) (Nat.le_of_ble_eq_true rfl) (cpX8_ok) (mT_X8_undo_ok hn) (fun K hK => ?_)
  refine hK (fun _ => false) 200 _ _ _ _ ?_
  simp only [↓wp, ↓stp, ilen, lnth, st1, st2, nolong, nohead, rnth, ↓gfX, ↓pfX, gfV, pfV, cpF, cpP, cndZ, ↓tgo, ↓tsw, ↓lsw, ↓ldI, ↓ldA, ↓ldL, ↓stI, ↓stA, ↓stL, ↓bin, ↓binD, ↓binL, ↓binDL, ↓una, ↓acV, ↓acK, ↓acpy, ↓inv, entL, nones, List.length_cons, List.length_nil, List.take, List.drop, List.reverse_cons, List.reverse_nil, List.nil_append, List.cons_append, Option.toList_some, Option.toList_none, Nat.reduceAdd, Nat.reduceSub, Nat.reduceLT, Nat.reduceEqDiff, Fin.isValue, aTL, aSZ, Int.toNat_natCast, hset_same, hset_o, hset_s, hset_row, ne_eq, Nat.reduceBEq, beq_self_eq_true, Fin.val_zero, Fin.val_one, fin0, fin1, fin2, fin3, Nat.le_refl, Nat.reduceLeDiff, Nat.zero_le, Int.reduceAdd, Int.reduceNeg, Int.reduceLE, Int.reduceLT, Int.reduceToNat, Int.reduceMul, Int.cast_ofNat_Int, Nat.reduceMod, ↓reduceIte, if_true, if_false, and_true, true_and, or_true, true_or, false_or, or_false, and_self, not_true_eq_false, not_false_eq_true, Bool.false_eq_true, reduceCtorEq, false_implies, true_implies, implies_true, and_false, false_and, dX8_undo_0, dX8_undo_1, dX8_undo_4, dX8_undo_7, dX8_undo_9, dX8_undo_10, dX8_undo_11, dX8_undo_12, dX8_undo_15, dX8_undo_16, dX8_undo_17, dX8_undo_20, dX8_undo_21, dX8_undo_24, dX8_undo_26, dX8_undo_27, dX8_undo_30, dX8_undo_31, dX8_undo_32, dX8_undo_35, dX8_undo_36, dX8_undo_39, dX8_undo_40, dX8_undo_43, cpX8, mT_X8_undo, SHl_58, SHl_59, SHl_60, SHl_61, SHl_62, SHl_63, SHl_64, SHl_65, SHl_66, SHl_67, SHl_68, SHl_69, SHl_70, SHl_71, SHl_72, SHl_73, SHl_74, SHl_75, S_X8_copies]
  rw [hcpy_f (q := 58) (by decide), hset_same]
  refine ⟨⟨by omega, by omega⟩, fun q => ⟨1488, 93, rfl, rfl, by omega, by omega, by omega, by omega, ?_⟩, fun q => ?_⟩
  · rw [if_neg (by omega)] at hq
    exact hq
  · rw [if_pos (by omega)] at hq
    exact hq
def S_X8_image : MSpec := fun a σ Q => match a with
  | [.inr (.inl 58), .inl k] => R32 k ∧ (0 ≤ σ 64 1 ∧ σ 64 1 ≤ 10) ∧ (if ¬ (0 ≤ k ∧ k < 2) then Q (some (.inl (-1000001))) σ else if σ 64 1 = 0 then Q (some (.inl (-1000002))) σ else Q (some (.inl 1)) (hset (hcpy σ 64 0 68 (93 * k) 93) 69 k.toNat 1))
  | _ => False
theorem rc_X8_image : ∀ a σ Q, S_X8_image a σ Q → ∃ (p : Nat) (r : List AV), a = .inr (.inl p) :: r ∧ p < 76 ∧ (SH p).1 = 4 ∧ (SH p).2.1 = 7 := by
  intro a σ Q h
  unfold S_X8_image at h
  split at h
  · exact ⟨58, _, rfl, by decide, rfl, rfl⟩
  · exact h.elim
def mT_X8_image (i : Nat) : Option (Nat × Bool × MSpec) := match i with
  | 68 => some (3, false, S_X8_in)
  | 147 => some (4, false, S_X8_copies)
  | 215 => some (1, true, S_X8_isPiece)
  | _ => none
theorem mT_X8_image_ok {l : Launch} {n : Nat} (hn : 1 ≤ n) : ∀ i e, mT_X8_image i = some e → mV l (rmOf n) RX8 i e := by
  intro i e h
  unfold mT_X8_image at h
  split at h
  · cases h; exact mvS (lv := 0) mw_X8_in (by omega) (by decide) (by decide +kernel) (Or.inl (gtm 831 (by decide +kernel) (by decide +kernel))) ok_X8_in
  · cases h; exact mvS (lv := 0) mw_X8_copies (by omega) (by decide) (by decide +kernel) (Or.inl (gtm 912 (by decide +kernel) (by decide +kernel))) ok_X8_copies
  · cases h; exact mvI (lv := 0) (ci := 7) (T := TX8) (N := 28) mw_X8_isPiece rfl (by omega) (by decide) (by decide +kernel) (gtm 944 (by decide +kernel) (by decide +kernel)) rc_X8_isPiece ok_X8_isPiece
  · cases h
set_option maxRecDepth 100000 in
set_option maxHeartbeats 4000000 in
theorem ok_X8_image : ∀ l n, 1 ≤ n → ∀ a σ Q, S_X8_image a σ Q → AM l n yX8_image cX8_image 2 (some .int) a σ Q := by
  intro l n hn a σ Q hS
  unfold S_X8_image at hS
  split at hS
  rotate_left
  · exact hS.elim
  rename_i k
  obtain ⟨⟨k1, k2⟩, h1, hq⟩ := hS
  refine am_ofF 1 cpX8 mT_X8_image (plainFor_of_name (by decide +kernel)) (rfl) (Nat.le_of_ble_eq_true rfl) (cpX8_ok) (mT_X8_image_ok hn) (fun K hK => ?_)
  refine hK (fun _ => false) 200 _ _ _ _ ?_
  simp only [↓wp, ↓stp, ilen, lnth, st1, st2, nolong, nohead, rnth, ↓gfX, ↓pfX, gfV, pfV, cpF, cpP, cndZ, ↓tgo, ↓tsw, ↓lsw, ↓ldI, ↓ldA, ↓ldL, ↓stI, ↓stA, ↓stL, ↓bin, ↓binD, ↓binL, ↓binDL, ↓una, ↓acV, ↓acK, ↓acpy, ↓inv, entL, nones, List.length_cons, List.length_nil, List.take, List.drop, List.reverse_cons, List.reverse_nil, List.nil_append, List.cons_append, Option.toList_some, Option.toList_none, Nat.reduceAdd, Nat.reduceSub, Nat.reduceLT, Nat.reduceEqDiff, Fin.isValue, aTL, aSZ, Int.toNat_natCast, hset_same, hset_o, hset_s, hset_row, ne_eq, Nat.reduceBEq, beq_self_eq_true, Fin.val_zero, Fin.val_one, fin0, fin1, fin2, fin3, Nat.le_refl, Nat.reduceLeDiff, Nat.zero_le, Int.reduceAdd, Int.reduceNeg, Int.reduceLE, Int.reduceLT, Int.reduceToNat, Int.reduceMul, Int.cast_ofNat_Int, Nat.reduceMod, ↓reduceIte, if_true, if_false, and_true, true_and, or_true, true_or, false_or, or_false, and_self, not_true_eq_false, not_false_eq_true, Bool.false_eq_true, reduceCtorEq, false_implies, true_implies, implies_true, and_false, false_and, dX8_image_0, dX8_image_1, dX8_image_2, dX8_image_3, dX8_image_6, dX8_image_9, dX8_image_11, dX8_image_12, dX8_image_13, dX8_image_16, dX8_image_19, dX8_image_21, dX8_image_22, dX8_image_23, dX8_image_26, dX8_image_27, dX8_image_28, dX8_image_31, dX8_image_33, dX8_image_34, dX8_image_35, dX8_image_38, dX8_image_39, dX8_image_42, dX8_image_43, dX8_image_44, dX8_image_45, dX8_image_46, cpX8, mT_X8_image, SHl_58, SHl_59, SHl_60, SHl_61, SHl_62, SHl_63, SHl_64, SHl_65, SHl_66, SHl_67, SHl_68, SHl_69, SHl_70, SHl_71, SHl_72, SHl_73, SHl_74, SHl_75, S_X8_copies, S_X8_in, S_X8_isPiece]
  (repeat' (first | apply And.intro | intro _)) <;> first | omega | (repeat (first | rw [if_pos (by omega)] at hq | rw [if_neg (by omega)] at hq)) <;> first | exact hq | (refine ⟨93, 186, rfl, rfl, ?_⟩ <;> (repeat' apply And.intro) <;> first | omega | exact hq)
def S_X8_restore : MSpec := fun a σ Q => match a with
  | [.inr (.inl 58), .inl k] => R32 k ∧ (∀ i, i < 2 → σ 69 i = 0 ∨ σ 69 i = 1) ∧ (if ¬ (0 ≤ k ∧ k < 2) then Q (some (.inl (-1000001))) σ else if σ 69 k.toNat = 0 then Q (some (.inl (-1000002))) σ else Q (some (.inl 1)) (hset (hcpy σ 68 (93 * k) 64 0 93) 58 17 0))
  | _ => False
theorem rc_X8_restore : ∀ a σ Q, S_X8_restore a σ Q → ∃ (p : Nat) (r : List AV), a = .inr (.inl p) :: r ∧ p < 76 ∧ (SH p).1 = 4 ∧ (SH p).2.1 = 7 := by
  intro a σ Q h
  unfold S_X8_restore at h
  split at h
  · exact ⟨58, _, rfl, by decide, rfl, rfl⟩
  · exact h.elim
def mT_X8_restore (i : Nat) : Option (Nat × Bool × MSpec) := match i with
  | 68 => some (3, false, S_X8_in)
  | 147 => some (4, false, S_X8_copies)
  | _ => none
theorem mT_X8_restore_ok {l : Launch} {n : Nat} (hn : 1 ≤ n) : ∀ i e, mT_X8_restore i = some e → mV l (rmOf n) RX8 i e := by
  intro i e h
  unfold mT_X8_restore at h
  split at h
  · cases h; exact mvS (lv := 0) mw_X8_in (by omega) (by decide) (by decide +kernel) (Or.inl (gtm 831 (by decide +kernel) (by decide +kernel))) ok_X8_in
  · cases h; exact mvS (lv := 0) mw_X8_copies (by omega) (by decide) (by decide +kernel) (Or.inl (gtm 912 (by decide +kernel) (by decide +kernel))) ok_X8_copies
  · cases h
set_option maxRecDepth 100000 in
set_option maxHeartbeats 4000000 in
theorem ok_X8_restore : ∀ l n, 1 ≤ n → ∀ a σ Q, S_X8_restore a σ Q → AM l n yX8_restore cX8_restore 2 (some .int) a σ Q := by
  intro l n hn a σ Q hS
  unfold S_X8_restore at hS
  split at hS
  rotate_left
  · exact hS.elim
  rename_i k
  obtain ⟨⟨k1, k2⟩, h1, hq⟩ := hS
  refine am_ofF 1 cpX8 mT_X8_restore (plainFor_of_name (by decide +kernel)) (rfl) (Nat.le_of_ble_eq_true rfl) (cpX8_ok) (mT_X8_restore_ok hn) (fun K hK => ?_)
  refine hK (fun _ => false) 200 _ _ _ _ ?_
  simp only [↓wp, ↓stp, ilen, lnth, st1, st2, nolong, nohead, rnth, ↓gfX, ↓pfX, gfV, pfV, cpF, cpP, cndZ, ↓tgo, ↓tsw, ↓lsw, ↓ldI, ↓ldA, ↓ldL, ↓stI, ↓stA, ↓stL, ↓bin, ↓binD, ↓binL, ↓binDL, ↓una, ↓acV, ↓acK, ↓acpy, ↓inv, entL, nones, List.length_cons, List.length_nil, List.take, List.drop, List.reverse_cons, List.reverse_nil, List.nil_append, List.cons_append, Option.toList_some, Option.toList_none, Nat.reduceAdd, Nat.reduceSub, Nat.reduceLT, Nat.reduceEqDiff, Fin.isValue, aTL, aSZ, Int.toNat_natCast, hset_same, hset_o, hset_s, hset_row, ne_eq, Nat.reduceBEq, beq_self_eq_true, Fin.val_zero, Fin.val_one, fin0, fin1, fin2, fin3, Nat.le_refl, Nat.reduceLeDiff, Nat.zero_le, Int.reduceAdd, Int.reduceNeg, Int.reduceLE, Int.reduceLT, Int.reduceToNat, Int.reduceMul, Int.cast_ofNat_Int, Nat.reduceMod, ↓reduceIte, if_true, if_false, and_true, true_and, or_true, true_or, false_or, or_false, and_self, not_true_eq_false, not_false_eq_true, Bool.false_eq_true, reduceCtorEq, false_implies, true_implies, implies_true, and_false, false_and, dX8_restore_0, dX8_restore_1, dX8_restore_2, dX8_restore_3, dX8_restore_6, dX8_restore_9, dX8_restore_11, dX8_restore_12, dX8_restore_13, dX8_restore_16, dX8_restore_17, dX8_restore_18, dX8_restore_21, dX8_restore_23, dX8_restore_24, dX8_restore_25, dX8_restore_28, dX8_restore_30, dX8_restore_31, dX8_restore_32, dX8_restore_33, dX8_restore_36, dX8_restore_37, dX8_restore_40, dX8_restore_41, dX8_restore_42, dX8_restore_45, dX8_restore_46, cpX8, mT_X8_restore, SHl_58, SHl_59, SHl_60, SHl_61, SHl_62, SHl_63, SHl_64, SHl_65, SHl_66, SHl_67, SHl_68, SHl_69, SHl_70, SHl_71, SHl_72, SHl_73, SHl_74, SHl_75, S_X8_copies, S_X8_in]
  by_cases hk : 0 ≤ k ∧ k < 2
  · have h2 := h1 k.toNat (by omega)
    (repeat' (first | apply And.intro | intro _)) <;> first | omega | (repeat (first | rw [if_pos (by omega)] at hq | rw [if_neg (by omega)] at hq)) <;> first | exact hq | (refine ⟨186, 93, rfl, rfl, ?_⟩ <;> (repeat' apply And.intro) <;> first | omega | exact hq)
  · (repeat' (first | apply And.intro | intro _)) <;> first | omega | exact hq | (rw [if_pos (by omega)] at hq; exact hq) | (rw [if_neg (by omega)] at hq; exact hq) | (repeat (first | rw [if_pos (by omega)] at hq | rw [if_neg (by omega)] at hq)) <;> exact hq | assumption | exact R32_of _
