/-! ===== the class's cheapest windows: choose, goOn ===== -/
def isBs (b : Nat) : Prop := SH b = (4, 2, [none, none, none, some (b + 1), some (b + 2), some (b + 3), some (b + 4), some (b + 5), some (b + 6), some (b + 7)]) ∧ SH (b + 1) = (0, 10, []) ∧ SH (b + 2) = (0, 40, []) ∧ SH (b + 3) = (0, 40, []) ∧ SH (b + 4) = (0, 240, []) ∧ SH (b + 5) = (1, 240, []) ∧ SH (b + 6) = (0, 240, []) ∧ SH (b + 7) = (0, 7, []) ∧ b + 7 < 76
theorem isBs.lt {b : Nat} (h : isBs b) : b < 76 := by
  have := h.2.2.2.2.2.2.2.2
  omega
theorem isBs_14 : isBs 14 := ⟨rfl, rfl, rfl, rfl, rfl, rfl, rfl, rfl, by decide⟩
theorem isBs_29 : isBs 29 := ⟨rfl, rfl, rfl, rfl, rfl, rfl, rfl, rfl, by decide⟩
def chF (σ : HP) (b N0 : Nat) (ph w : Int) : Nat → Int := fun t => σ (b + 4) (N0 + t) + stepZ ph w t
def S_X2_choose : MSpec := fun a σ Q => match a with
  | [.inr (.inl b), .inl at', .inl w, .inl ph] => isBs b ∧ (0 ≤ w ∧ w < 24) ∧ (0 ≤ at' - w ∧ at' - w + 48 ≤ 240) ∧ (ph = 0 ∨ ph = 1) ∧ (∀ t : Nat, t < 24 → (0 ≤ σ (b + 4) ((at' - w + 24).toNat + t) ∧ σ (b + 4) ((at' - w + 24).toNat + t) ≤ 100000) ∧ (0 ≤ σ (b + 5) ((at' - w + 24).toNat + t) ∧ σ (b + 5) ((at' - w + 24).toNat + t) ≤ 2641807540224)) ∧
      Q none (hset (hset (hset σ (b + 4) at'.toNat (lstN (chF σ b (at' - w + 24).toNat ph w) 24)) (b + 5) at'.toNat (cntN (chF σ b (at' - w + 24).toNat ph w) (fun t => σ (b + 5) ((at' - w + 24).toNat + t)) 24)) (b + 6) at'.toNat (fstN (chF σ b (at' - w + 24).toNat ph w) 24))
  | _ => False
theorem rc_X2_choose : ∀ a σ Q, S_X2_choose a σ Q → ∃ (p : Nat) (r : List AV), a = .inr (.inl p) :: r ∧ p < 76 ∧ (SH p).1 = 4 ∧ (SH p).2.1 = 2 := by
  intro a σ Q h
  unfold S_X2_choose at h
  split at h
  · exact ⟨_, _, rfl, h.1.lt, by rw [h.1.1], by rw [h.1.1]⟩
  · exact h.elim
def mT_X2_choose (i : Nat) : Option (Nat × Bool × MSpec) := match i with
  | _ => none
theorem mT_X2_choose_ok {l : Launch} {n : Nat} (hn : 0 ≤ n) : ∀ i e, mT_X2_choose i = some e → mV l (rmOf n) RX2 i e := by
  intro i e h
  unfold mT_X2_choose at h
  split at h
  · cases h
set_option maxRecDepth 100000 in
set_option maxHeartbeats 16000000 in
theorem ok_X2_choose : ∀ l n, 0 ≤ n → ∀ a σ Q, S_X2_choose a σ Q → AM l n yX2_choose cX2_choose 12 none a σ Q := by
  intro l n hn a σ Q hS
  unfold S_X2_choose at hS
  split at hS
  rotate_left
  · exact hS.elim
  rename_i b A w ph
  obtain ⟨⟨b0, b1, b2, b3, b4, b5, b6, b7, b8⟩, w1, A1, p1, hT, hq⟩ := hS
  obtain ⟨N0, hN0⟩ : ∃ N0 : Nat, (A - w + 24).toNat = N0 := ⟨_, rfl⟩
  rw [hN0] at hT hq
  obtain ⟨f, hf⟩ : ∃ f : Nat → Int, f = chF σ b N0 ph w := ⟨_, rfl⟩
  obtain ⟨g, hg⟩ : ∃ g : Nat → Int, g = fun t => σ (b + 5) (N0 + t) := ⟨_, rfl⟩
  rw [← hf, ← hg] at hq
  have fb : ∀ t, t < 24 → 0 ≤ f t ∧ f t ≤ 100023 := by
    intro t ht
    have h1 := (hT t ht).1
    rw [hf]
    unfold chF stepZ
    split <;> omega
  have lb : ∀ t, t ≤ 24 → 0 ≤ lstN f t ∧ lstN f t ≤ 1000000 := by
    intro t
    induction t with
    | zero => intro _; unfold lstN; omega
    | succ t ih =>
      intro ht
      have h1 := ih (by omega)
      have h2 := fb t (by omega)
      rw [lstN_s]
      split <;> omega
  have cb : ∀ t, t ≤ 24 → 0 ≤ cntN f g t ∧ cntN f g t ≤ t * 2641807540224 := by
    intro t
    induction t with
    | zero => intro _; unfold cntN; omega
    | succ t ih =>
      intro ht
      have h1 := ih (by omega)
      have h2 : 0 ≤ g t ∧ g t ≤ 2641807540224 := by rw [hg]; exact (hT t (by omega)).2
      rw [cntN_s]
      split
      · omega
      · split <;> omega
  refine am_ofF 0 cpX2 mT_X2_choose (plainFor_of_name (by decide +kernel)) (rfl) (Nat.le_of_ble_eq_true rfl) (cpX2_ok) (mT_X2_choose_ok hn) (fun K hK => ?_)
  have loop : ∀ (d t : Nat), t + d = 24 → ∀ u10 u11 : Option AV, K 21 [some (.inr (.inl b)), some (.inl A), some (.inl w), some (.inl ph), some (.inl (A - w + 24)), some (.inl (lstN f t)), some (.inl (fstN f t : Int)), some (.inr (.inr (cntN f g t))), none, some (.inl (t : Int)), u10, u11] [] σ := by
    intro d
    induction d with
    | zero =>
      intro t ht u10 u11
      refine hK (fun q => q == 21) 100 _ _ _ _ ?_
      simp only [↓wp, ↓stp, ilen, lnth, st1, st2, nolong, nohead, rnth, ↓gfX, ↓pfX, gfV, pfV, cpF, cpP, cndZ, ↓tgo, ↓tsw, ↓lsw, ↓ldI, ↓ldA, ↓ldL, ↓stI, ↓stA, ↓stL, ↓bin, ↓binD, ↓binL, ↓binDL, ↓una, ↓acV, ↓acK, ↓acpy, ↓inv, entL, nones, List.length_cons, List.length_nil, List.take, List.drop, List.reverse_cons, List.reverse_nil, List.nil_append, List.cons_append, Option.toList_some, Option.toList_none, Nat.reduceAdd, Nat.reduceSub, Nat.reduceLT, Nat.reduceEqDiff, Fin.isValue, aTL, aSZ, Int.toNat_natCast, hset_same, hset_o, hset_s, hset_row, ne_eq, Nat.reduceBEq, beq_self_eq_true, Fin.val_zero, Fin.val_one, fin0, fin1, fin2, fin3, Nat.le_refl, Nat.reduceLeDiff, Nat.zero_le, Int.reduceAdd, Int.reduceNeg, Int.reduceLE, Int.reduceLT, Int.reduceToNat, Int.reduceMul, Int.cast_ofNat_Int, Nat.reduceMod, ↓reduceIte, if_true, if_false, and_true, true_and, or_true, true_or, false_or, or_false, and_self, not_true_eq_false, not_false_eq_true, Bool.false_eq_true, reduceCtorEq, false_implies, true_implies, implies_true, and_false, false_and, dX2_choose_0, dX2_choose_1, dX2_choose_2, dX2_choose_3, dX2_choose_5, dX2_choose_6, dX2_choose_8, dX2_choose_10, dX2_choose_12, dX2_choose_13, dX2_choose_15, dX2_choose_16, dX2_choose_18, dX2_choose_19, dX2_choose_21, dX2_choose_23, dX2_choose_25, dX2_choose_28, dX2_choose_30, dX2_choose_31, dX2_choose_34, dX2_choose_35, dX2_choose_37, dX2_choose_38, dX2_choose_41, dX2_choose_43, dX2_choose_44, dX2_choose_45, dX2_choose_47, dX2_choose_48, dX2_choose_51, dX2_choose_53, dX2_choose_55, dX2_choose_56, dX2_choose_57, dX2_choose_58, dX2_choose_61, dX2_choose_63, dX2_choose_64, dX2_choose_65, dX2_choose_68, dX2_choose_70, dX2_choose_71, dX2_choose_73, dX2_choose_75, dX2_choose_77, dX2_choose_80, dX2_choose_82, dX2_choose_84, dX2_choose_86, dX2_choose_88, dX2_choose_89, dX2_choose_92, dX2_choose_94, dX2_choose_96, dX2_choose_97, dX2_choose_98, dX2_choose_100, dX2_choose_103, dX2_choose_105, dX2_choose_107, dX2_choose_110, dX2_choose_112, dX2_choose_113, dX2_choose_116, dX2_choose_118, dX2_choose_120, dX2_choose_121, dX2_choose_122, dX2_choose_123, dX2_choose_125, dX2_choose_128, dX2_choose_131, dX2_choose_132, dX2_choose_135, dX2_choose_136, dX2_choose_138, dX2_choose_139, dX2_choose_140, dX2_choose_143, dX2_choose_144, dX2_choose_146, dX2_choose_147, dX2_choose_148, dX2_choose_151, dX2_choose_152, dX2_choose_154, dX2_choose_155, cpX2, mT_X2_choose, SHl_0, SHl_1, SHl_2, SHl_3, SHl_4, SHl_5, SHl_6, SHl_7, SHl_8, SHl_9, SHl_10, SHl_11, SHl_12, SHl_13, SHl_14, SHl_15, SHl_16, SHl_17, SHl_18, SHl_19, SHl_20, SHl_21, SHl_22, SHl_23, SHl_24, SHl_25, SHl_26, SHl_27, SHl_28, SHl_29, SHl_30, SHl_31, SHl_32, SHl_33, SHl_34, SHl_35, SHl_36, SHl_37, SHl_38, SHl_39, SHl_40, SHl_41, SHl_42, SHl_43, SHl_44, SHl_45, SHl_46, SHl_47, SHl_48, SHl_49, SHl_50, SHl_51, SHl_52, SHl_53, SHl_54, SHl_55, SHl_56, SHl_57, b0, b1, b2, b3, b4, b5, b6, b7]
      refine ⟨⟨by omega, by omega⟩, ⟨by omega, by omega⟩, fun _ => ?_, fun q => by omega⟩
      rw [show t = 24 by omega]
      refine ⟨by omega, by omega, by omega, by omega, by omega, by omega, by omega, by omega, by omega, by omega, by omega, by omega, hq⟩
    | succ d ih =>
      intro t ht u10 u11
      have h1 := hT t (by omega)
      have h2 := fb t (by omega)
      have h3 := lb t (by omega)
      have h4 := cb t (by omega)
      have hi : (A - w + 24 + (t : Int)).toNat = N0 + t := by omega
      have mid : ∀ (u : Option AV) (z : Int), z = f t → K 73 [some (.inr (.inl b)), some (.inl A), some (.inl w), some (.inl ph), some (.inl (A - w + 24)), some (.inl (lstN f t)), some (.inl (fstN f t : Int)), some (.inr (.inr (cntN f g t))), none, some (.inl (t : Int)), u, some (.inl z)] [] σ := by
        intro u z hz
        refine hK (fun q => q == 21) 100 _ _ _ _ ?_
        simp only [↓wp, ↓stp, ilen, lnth, st1, st2, nolong, nohead, rnth, ↓gfX, ↓pfX, gfV, pfV, cpF, cpP, cndZ, ↓tgo, ↓tsw, ↓lsw, ↓ldI, ↓ldA, ↓ldL, ↓stI, ↓stA, ↓stL, ↓bin, ↓binD, ↓binL, ↓binDL, ↓una, ↓acV, ↓acK, ↓acpy, ↓inv, entL, nones, List.length_cons, List.length_nil, List.take, List.drop, List.reverse_cons, List.reverse_nil, List.nil_append, List.cons_append, Option.toList_some, Option.toList_none, Nat.reduceAdd, Nat.reduceSub, Nat.reduceLT, Nat.reduceEqDiff, Fin.isValue, aTL, aSZ, Int.toNat_natCast, hset_same, hset_o, hset_s, hset_row, ne_eq, Nat.reduceBEq, beq_self_eq_true, Fin.val_zero, Fin.val_one, fin0, fin1, fin2, fin3, Nat.le_refl, Nat.reduceLeDiff, Nat.zero_le, Int.reduceAdd, Int.reduceNeg, Int.reduceLE, Int.reduceLT, Int.reduceToNat, Int.reduceMul, Int.cast_ofNat_Int, Nat.reduceMod, ↓reduceIte, if_true, if_false, and_true, true_and, or_true, true_or, false_or, or_false, and_self, not_true_eq_false, not_false_eq_true, Bool.false_eq_true, reduceCtorEq, false_implies, true_implies, implies_true, and_false, false_and, dX2_choose_0, dX2_choose_1, dX2_choose_2, dX2_choose_3, dX2_choose_5, dX2_choose_6, dX2_choose_8, dX2_choose_10, dX2_choose_12, dX2_choose_13, dX2_choose_15, dX2_choose_16, dX2_choose_18, dX2_choose_19, dX2_choose_21, dX2_choose_23, dX2_choose_25, dX2_choose_28, dX2_choose_30, dX2_choose_31, dX2_choose_34, dX2_choose_35, dX2_choose_37, dX2_choose_38, dX2_choose_41, dX2_choose_43, dX2_choose_44, dX2_choose_45, dX2_choose_47, dX2_choose_48, dX2_choose_51, dX2_choose_53, dX2_choose_55, dX2_choose_56, dX2_choose_57, dX2_choose_58, dX2_choose_61, dX2_choose_63, dX2_choose_64, dX2_choose_65, dX2_choose_68, dX2_choose_70, dX2_choose_71, dX2_choose_73, dX2_choose_75, dX2_choose_77, dX2_choose_80, dX2_choose_82, dX2_choose_84, dX2_choose_86, dX2_choose_88, dX2_choose_89, dX2_choose_92, dX2_choose_94, dX2_choose_96, dX2_choose_97, dX2_choose_98, dX2_choose_100, dX2_choose_103, dX2_choose_105, dX2_choose_107, dX2_choose_110, dX2_choose_112, dX2_choose_113, dX2_choose_116, dX2_choose_118, dX2_choose_120, dX2_choose_121, dX2_choose_122, dX2_choose_123, dX2_choose_125, dX2_choose_128, dX2_choose_131, dX2_choose_132, dX2_choose_135, dX2_choose_136, dX2_choose_138, dX2_choose_139, dX2_choose_140, dX2_choose_143, dX2_choose_144, dX2_choose_146, dX2_choose_147, dX2_choose_148, dX2_choose_151, dX2_choose_152, dX2_choose_154, dX2_choose_155, cpX2, mT_X2_choose, SHl_0, SHl_1, SHl_2, SHl_3, SHl_4, SHl_5, SHl_6, SHl_7, SHl_8, SHl_9, SHl_10, SHl_11, SHl_12, SHl_13, SHl_14, SHl_15, SHl_16, SHl_17, SHl_18, SHl_19, SHl_20, SHl_21, SHl_22, SHl_23, SHl_24, SHl_25, SHl_26, SHl_27, SHl_28, SHl_29, SHl_30, SHl_31, SHl_32, SHl_33, SHl_34, SHl_35, SHl_36, SHl_37, SHl_38, SHl_39, SHl_40, SHl_41, SHl_42, SHl_43, SHl_44, SHl_45, SHl_46, SHl_47, SHl_48, SHl_49, SHl_50, SHl_51, SHl_52, SHl_53, SHl_54, SHl_55, SHl_56, SHl_57, b0, b1, b2, b3, b4, b5, b6, b7]
        have hh := ih (t + 1) (by omega) u (some (.inl z))
        have hgt : g t = σ (b + 5) (N0 + t) := by rw [hg]
        rw [lstN_s, fstN_s, cntN_s, ← hz, hgt] at hh
        rw [hi]
        refine ⟨⟨by omega, by omega⟩, ⟨by omega, by omega⟩, fun q => ⟨⟨by omega, by omega⟩, ⟨by omega, by omega⟩, fun r => ?_, fun r => ⟨by omega, by omega, by omega, by omega, ?_⟩⟩, fun q => ⟨by omega, by omega, by omega, by omega, ?_⟩⟩
        · rw [if_neg (by omega), if_neg (by omega), if_neg (by omega), if_neg (by omega)] at hh
          exact hh
        · rw [if_neg (by omega), if_neg (by omega), if_neg (by omega), if_pos (by omega)] at hh
          exact hh
        · rw [if_pos (by omega), if_pos (by omega), if_pos (by omega)] at hh
          exact hh
      refine hK (fun q => q == 21 || q == 73) 100 _ _ _ _ ?_
      simp only [↓wp, ↓stp, ilen, lnth, st1, st2, nolong, nohead, rnth, ↓gfX, ↓pfX, gfV, pfV, cpF, cpP, cndZ, ↓tgo, ↓tsw, ↓lsw, ↓ldI, ↓ldA, ↓ldL, ↓stI, ↓stA, ↓stL, ↓bin, ↓binD, ↓binL, ↓binDL, ↓una, ↓acV, ↓acK, ↓acpy, ↓inv, entL, nones, List.length_cons, List.length_nil, List.take, List.drop, List.reverse_cons, List.reverse_nil, List.nil_append, List.cons_append, Option.toList_some, Option.toList_none, Nat.reduceAdd, Nat.reduceSub, Nat.reduceLT, Nat.reduceEqDiff, Fin.isValue, aTL, aSZ, Int.toNat_natCast, hset_same, hset_o, hset_s, hset_row, ne_eq, Nat.reduceBEq, beq_self_eq_true, Fin.val_zero, Fin.val_one, fin0, fin1, fin2, fin3, Nat.le_refl, Nat.reduceLeDiff, Nat.zero_le, Int.reduceAdd, Int.reduceNeg, Int.reduceLE, Int.reduceLT, Int.reduceToNat, Int.reduceMul, Int.cast_ofNat_Int, Nat.reduceMod, ↓reduceIte, if_true, if_false, and_true, true_and, or_true, true_or, false_or, or_false, and_self, not_true_eq_false, not_false_eq_true, Bool.false_eq_true, reduceCtorEq, false_implies, true_implies, implies_true, and_false, false_and, dX2_choose_0, dX2_choose_1, dX2_choose_2, dX2_choose_3, dX2_choose_5, dX2_choose_6, dX2_choose_8, dX2_choose_10, dX2_choose_12, dX2_choose_13, dX2_choose_15, dX2_choose_16, dX2_choose_18, dX2_choose_19, dX2_choose_21, dX2_choose_23, dX2_choose_25, dX2_choose_28, dX2_choose_30, dX2_choose_31, dX2_choose_34, dX2_choose_35, dX2_choose_37, dX2_choose_38, dX2_choose_41, dX2_choose_43, dX2_choose_44, dX2_choose_45, dX2_choose_47, dX2_choose_48, dX2_choose_51, dX2_choose_53, dX2_choose_55, dX2_choose_56, dX2_choose_57, dX2_choose_58, dX2_choose_61, dX2_choose_63, dX2_choose_64, dX2_choose_65, dX2_choose_68, dX2_choose_70, dX2_choose_71, dX2_choose_73, dX2_choose_75, dX2_choose_77, dX2_choose_80, dX2_choose_82, dX2_choose_84, dX2_choose_86, dX2_choose_88, dX2_choose_89, dX2_choose_92, dX2_choose_94, dX2_choose_96, dX2_choose_97, dX2_choose_98, dX2_choose_100, dX2_choose_103, dX2_choose_105, dX2_choose_107, dX2_choose_110, dX2_choose_112, dX2_choose_113, dX2_choose_116, dX2_choose_118, dX2_choose_120, dX2_choose_121, dX2_choose_122, dX2_choose_123, dX2_choose_125, dX2_choose_128, dX2_choose_131, dX2_choose_132, dX2_choose_135, dX2_choose_136, dX2_choose_138, dX2_choose_139, dX2_choose_140, dX2_choose_143, dX2_choose_144, dX2_choose_146, dX2_choose_147, dX2_choose_148, dX2_choose_151, dX2_choose_152, dX2_choose_154, dX2_choose_155, cpX2, mT_X2_choose, SHl_0, SHl_1, SHl_2, SHl_3, SHl_4, SHl_5, SHl_6, SHl_7, SHl_8, SHl_9, SHl_10, SHl_11, SHl_12, SHl_13, SHl_14, SHl_15, SHl_16, SHl_17, SHl_18, SHl_19, SHl_20, SHl_21, SHl_22, SHl_23, SHl_24, SHl_25, SHl_26, SHl_27, SHl_28, SHl_29, SHl_30, SHl_31, SHl_32, SHl_33, SHl_34, SHl_35, SHl_36, SHl_37, SHl_38, SHl_39, SHl_40, SHl_41, SHl_42, SHl_43, SHl_44, SHl_45, SHl_46, SHl_47, SHl_48, SHl_49, SHl_50, SHl_51, SHl_52, SHl_53, SHl_54, SHl_55, SHl_56, SHl_57, b0, b1, b2, b3, b4, b5, b6, b7, Bool.or_true, Bool.or_false, Bool.true_or, Bool.false_or]
      rw [hi]
      have ft : f t = σ (b + 4) (N0 + t) + stepZ ph w t := by rw [hf]; rfl
      unfold stepZ at ft
      (repeat' (first | apply And.intro | intro _)) <;> first | omega | (apply mid; rw [ft]; first | (split <;> omega) | (rw [Int.tdiv_eq_ediv_of_nonneg (by omega)]; split <;> omega))
  refine hK (fun q => q == 21) 100 _ _ _ _ ?_
  simp only [↓wp, ↓stp, ilen, lnth, st1, st2, nolong, nohead, rnth, ↓gfX, ↓pfX, gfV, pfV, cpF, cpP, cndZ, ↓tgo, ↓tsw, ↓lsw, ↓ldI, ↓ldA, ↓ldL, ↓stI, ↓stA, ↓stL, ↓bin, ↓binD, ↓binL, ↓binDL, ↓una, ↓acV, ↓acK, ↓acpy, ↓inv, entL, nones, List.length_cons, List.length_nil, List.take, List.drop, List.reverse_cons, List.reverse_nil, List.nil_append, List.cons_append, Option.toList_some, Option.toList_none, Nat.reduceAdd, Nat.reduceSub, Nat.reduceLT, Nat.reduceEqDiff, Fin.isValue, aTL, aSZ, Int.toNat_natCast, hset_same, hset_o, hset_s, hset_row, ne_eq, Nat.reduceBEq, beq_self_eq_true, Fin.val_zero, Fin.val_one, fin0, fin1, fin2, fin3, Nat.le_refl, Nat.reduceLeDiff, Nat.zero_le, Int.reduceAdd, Int.reduceNeg, Int.reduceLE, Int.reduceLT, Int.reduceToNat, Int.reduceMul, Int.cast_ofNat_Int, Nat.reduceMod, ↓reduceIte, if_true, if_false, and_true, true_and, or_true, true_or, false_or, or_false, and_self, not_true_eq_false, not_false_eq_true, Bool.false_eq_true, reduceCtorEq, false_implies, true_implies, implies_true, and_false, false_and, dX2_choose_0, dX2_choose_1, dX2_choose_2, dX2_choose_3, dX2_choose_5, dX2_choose_6, dX2_choose_8, dX2_choose_10, dX2_choose_12, dX2_choose_13, dX2_choose_15, dX2_choose_16, dX2_choose_18, dX2_choose_19, dX2_choose_21, dX2_choose_23, dX2_choose_25, dX2_choose_28, dX2_choose_30, dX2_choose_31, dX2_choose_34, dX2_choose_35, dX2_choose_37, dX2_choose_38, dX2_choose_41, dX2_choose_43, dX2_choose_44, dX2_choose_45, dX2_choose_47, dX2_choose_48, dX2_choose_51, dX2_choose_53, dX2_choose_55, dX2_choose_56, dX2_choose_57, dX2_choose_58, dX2_choose_61, dX2_choose_63, dX2_choose_64, dX2_choose_65, dX2_choose_68, dX2_choose_70, dX2_choose_71, dX2_choose_73, dX2_choose_75, dX2_choose_77, dX2_choose_80, dX2_choose_82, dX2_choose_84, dX2_choose_86, dX2_choose_88, dX2_choose_89, dX2_choose_92, dX2_choose_94, dX2_choose_96, dX2_choose_97, dX2_choose_98, dX2_choose_100, dX2_choose_103, dX2_choose_105, dX2_choose_107, dX2_choose_110, dX2_choose_112, dX2_choose_113, dX2_choose_116, dX2_choose_118, dX2_choose_120, dX2_choose_121, dX2_choose_122, dX2_choose_123, dX2_choose_125, dX2_choose_128, dX2_choose_131, dX2_choose_132, dX2_choose_135, dX2_choose_136, dX2_choose_138, dX2_choose_139, dX2_choose_140, dX2_choose_143, dX2_choose_144, dX2_choose_146, dX2_choose_147, dX2_choose_148, dX2_choose_151, dX2_choose_152, dX2_choose_154, dX2_choose_155, cpX2, mT_X2_choose, SHl_0, SHl_1, SHl_2, SHl_3, SHl_4, SHl_5, SHl_6, SHl_7, SHl_8, SHl_9, SHl_10, SHl_11, SHl_12, SHl_13, SHl_14, SHl_15, SHl_16, SHl_17, SHl_18, SHl_19, SHl_20, SHl_21, SHl_22, SHl_23, SHl_24, SHl_25, SHl_26, SHl_27, SHl_28, SHl_29, SHl_30, SHl_31, SHl_32, SHl_33, SHl_34, SHl_35, SHl_36, SHl_37, SHl_38, SHl_39, SHl_40, SHl_41, SHl_42, SHl_43, SHl_44, SHl_45, SHl_46, SHl_47, SHl_48, SHl_49, SHl_50, SHl_51, SHl_52, SHl_53, SHl_54, SHl_55, SHl_56, SHl_57, b0, b1, b2, b3, b4, b5, b6, b7]
  (repeat' (first | apply And.intro | intro _)) <;> first | omega | exact loop 24 0 (by omega) none none
