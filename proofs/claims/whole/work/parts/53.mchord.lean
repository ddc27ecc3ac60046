/-! ===== the reference: readsChord ===== -/
def adY (σ τ : HP) : Prop := only σ τ (fun q => q = 58 ∨ q = 65) ∧ ∀ j, j < 7 ∨ 12 < j → τ 58 j = σ 58 j
def S_X8_readsChord : MSpec := fun a σ Q => match a with
  | [.inr (.inl 58), .inl b, .inl f] => rtk σ ∧ R32 (σ 58 8) ∧ R32 (σ 58 11) ∧ R32 (σ 58 12) ∧ (b = 0 ∨ b = 1) ∧ (f = 0 ∨ f = 1) ∧ (if 0 ≤ σ 58 8 then Q none σ else ∃ p, ldP (σ 63) (rL σ) σ p ∧ okV (vM σ 65 0) ∧ vM σ 65 0 0 2 ≤ 4 * vM σ 65 0 0 1 ∧ (vM σ 65 0 0 1 = 0 → b = 1 ∧ f = 1) ∧
      (∀ τ (k : Int) (q : Nat), (1 ≤ k ∧ k ≤ 3) → q ≤ rL σ → runS (RN (σ 63) (rL σ)) (σ 63) (rL σ) p b f (vM σ 65 0) = fltR k q → adY σ τ → τ 58 8 = q → τ 58 7 = k → Q none τ) ∧
      (∀ τ (p' : Nat) (lk : Int) (D' : HP), p < p' → runS (RN (σ 63) (rL σ)) (σ 63) (rL σ) p b f (vM σ 65 0) = RN (σ 63) (rL σ) p' 6 0 0 lk D' → adY σ τ → τ 58 8 = σ 58 8 → τ 58 7 = σ 58 7 → ldP (σ 63) (rL σ) τ p' → vM τ 65 0 = D' → okV D' → D' 0 2 ≤ 4 * D' 0 1 → 1 ≤ D' 0 1 → Q none τ))
  | _ => False
theorem rc_X8_readsChord : ∀ a σ Q, S_X8_readsChord a σ Q → ∃ (p : Nat) (r : List AV), a = .inr (.inl p) :: r ∧ p < 76 ∧ (SH p).1 = 4 ∧ (SH p).2.1 = 7 := by
  intro a σ Q h
  unfold S_X8_readsChord at h
  split at h
  · exact ⟨58, _, rfl, by decide, rfl, rfl⟩
  · exact h.elim
theorem kdZ_T {B : Nat → Int} {L p : Nat} (h : ¬ kdZ (tkT B L p) = 0) : 97 ≤ tkT B L p ∧ tkT B L p ≤ 122 := by
  have := tkT_set (B := B) (L := L) (p := p)
  unfold kdZ at h
  (repeat' split at h) <;> omega
theorem adY_set {σ τ : HP} {k : Nat} {v : Int} (h : adY σ τ) : adY σ (hset τ 65 k v) := ⟨only_set h.1 (Or.inr rfl), fun j hj => by rw [hset_o (by decide), h.2 j hj]⟩
theorem adY_p {σ τ ρ : HP} (h : adY σ τ) (h' : adP τ ρ) : adY σ ρ := ⟨fun q hq => (h'.1 q (fun z => hq (Or.inl z))).trans (h.1 q hq), fun j hj => (h'.2 j (by omega)).trans (h.2 j hj)⟩
theorem adY_k {σ τ : HP} (h : adY σ τ) : τ 63 = σ 63 ∧ rL τ = rL σ ∧ τ 58 6 = σ 58 6 ∧ (rtk σ → rtk τ) := by
  have e1 : τ 63 = σ 63 := h.1 63 (by decide)
  have e2 : τ 58 6 = σ 58 6 := h.2 6 (by omega)
  refine ⟨e1, by unfold rL; rw [e2], e2, fun hr => ?_⟩
  unfold rtk at hr ⊢
  rw [e1, e2]
  exact hr
theorem adY_flt {σ τ : HP} {a k : Int} (h : adY σ τ) : adY σ (hset (hset τ 58 8 a) 58 7 k) := ⟨only_set (only_set h.1 (Or.inl rfl)) (Or.inl rfl), fun j hj => by rw [hset_s (by omega), hset_s (by omega), h.2 j hj]⟩
theorem ldP_set {B : Nat → Int} {L : Nat} {τ : HP} {p k : Nat} {v : Int} (h : ldP B L τ p) : ldP B L (hset τ 65 k v) p := by
  have e : hset τ 65 k v 58 = τ 58 := hset_row (by decide)
  unfold ldP at h ⊢
  rw [e]
  exact h
/-- the chord is written down -/
theorem vM_op {σ τ ρ : HP} {C N j : Nat} {kd b f : Int} {g : Nat → Int} (h1 : σ 65 1 = C) (h2 : σ 65 2 = N) (hC : C < 10) (hN : N + j ≤ 40)
    (o : ∀ c, c < 53 + N → τ 65 c = σ 65 c) (hg : ∀ i, i < j → τ 65 (53 + N + i) = g i)
    (hρ : ρ = hset (hset (hset (hset (hset (hset (hset τ 65 (5 * C + 3) kd) 65 (5 * C + 4) N) 65 (5 * C + 5) j) 65 (5 * C + 6) b) 65 (5 * C + 7) f) 65 1 ((C : Int) + 1)) 65 2 ((N : Int) + j)) : vM ρ 65 0 = opD (vM σ 65 0) kd b f g j := by
  obtain ⟨v0, v1, v2⟩ := vM_0 σ 65
  rw [h1] at v1
  rw [h2] at v2
  have r : ∀ c, ρ 65 c = if c = 2 then (N : Int) + j else if c = 1 then (C : Int) + 1 else if c = 5 * C + 7 then f else if c = 5 * C + 6 then b else if c = 5 * C + 5 then (j : Int) else if c = 5 * C + 4 then (N : Int) else if c = 5 * C + 3 then kd else τ 65 c := fun c => by
    rw [hρ]
    simp only [hset_at, true_and]
  have r1 : ρ 65 1 = (C : Int) + 1 := by rw [r, if_neg (by omega), if_pos rfl]
  have r2 : ρ 65 2 = (N : Int) + j := by rw [r, if_pos rfl]
  have r0 : ρ 65 0 = σ 65 0 := by
    rw [r, if_neg (by omega), if_neg (by omega), if_neg (by omega), if_neg (by omega), if_neg (by omega), if_neg (by omega), if_neg (by omega)]
    exact o 0 (by omega)
  funext k c
  rcases k with _ | _ | _ | _ | _ | _ | _ | k <;> simp only [opD, Nat.zero_add, Nat.reduceAdd, v1, v2]
  · by_cases h : c < 3
    · rcases (show c = 0 ∨ c = 1 ∨ c = 2 by omega) with rfl | rfl | rfl
      · simp [vM, r0]
      · simp [vM, r1]
      · simp [vM, r2]
    · rw [if_neg (by omega), if_neg (by omega)]
      simp [vM, h]
  · simp only [vM, Nat.zero_add, r1, h1]
    by_cases h : c = C
    · subst h
      rw [if_pos (by omega), if_pos rfl, r]
      repeat rw [if_neg (by omega)]
      rw [if_pos rfl]
    · rw [if_neg (by omega)]
      by_cases h' : c < C
      · rw [if_pos (by omega), if_pos (by omega), r]
        repeat rw [if_neg (by omega)]
        exact o _ (by omega)
      · rw [if_neg (by omega), if_neg (by omega)]
  · simp only [vM, Nat.zero_add, r1, h1]
    by_cases h : c = C
    · subst h
      rw [if_pos (by omega), if_pos rfl, r]
      repeat rw [if_neg (by omega)]
      rw [if_pos rfl]
    · rw [if_neg (by omega)]
      by_cases h' : c < C
      · rw [if_pos (by omega), if_pos (by omega), r]
        repeat rw [if_neg (by omega)]
        exact o _ (by omega)
      · rw [if_neg (by omega), if_neg (by omega)]
  · simp only [vM, Nat.zero_add, r1, h1]
    by_cases h : c = C
    · subst h
      rw [if_pos (by omega), if_pos rfl, r]
      repeat rw [if_neg (by omega)]
      rw [if_pos rfl]
    · rw [if_neg (by omega)]
      by_cases h' : c < C
      · rw [if_pos (by omega), if_pos (by omega), r]
        repeat rw [if_neg (by omega)]
        exact o _ (by omega)
      · rw [if_neg (by omega), if_neg (by omega)]
  · simp only [vM, Nat.zero_add, r1, h1]
    by_cases h : c = C
    · subst h
      rw [if_pos (by omega), if_pos rfl, r]
      repeat rw [if_neg (by omega)]
      rw [if_pos rfl]
    · rw [if_neg (by omega)]
      by_cases h' : c < C
      · rw [if_pos (by omega), if_pos (by omega), r]
        repeat rw [if_neg (by omega)]
        exact o _ (by omega)
      · rw [if_neg (by omega), if_neg (by omega)]
  · simp only [vM, Nat.zero_add, r1, h1]
    by_cases h : c = C
    · subst h
      rw [if_pos (by omega), if_pos rfl, r]
      repeat rw [if_neg (by omega)]
      rw [if_pos rfl]
    · rw [if_neg (by omega)]
      by_cases h' : c < C
      · rw [if_pos (by omega), if_pos (by omega), r]
        repeat rw [if_neg (by omega)]
        exact o _ (by omega)
      · rw [if_neg (by omega), if_neg (by omega)]
  · simp only [vM, Nat.zero_add, r2, h2]
    have hr : ρ 65 (53 + c) = τ 65 (53 + c) := by
      rw [r]
      repeat rw [if_neg (by omega)]
    rw [hr, Int.toNat_natCast]
    by_cases h : c < N
    · rw [if_pos (by omega), if_neg (by omega), if_pos (by omega)]
      exact o _ (by omega)
    · by_cases h' : c < N + j
      · rw [if_pos (by omega), if_pos (by omega)]
        have := hg (c - N) (by omega)
        rw [show 53 + N + (c - N) = 53 + c by omega] at this
        exact this
      · rw [if_neg (by omega), if_neg (by omega), if_neg (by omega)]
  · rfl
def mT_X8_readsChord (i : Nat) : Option (Nat × Bool × MSpec) := match i with
  | 116 => some (1, true, S_X8_isWell)
  | 126 => some (3, true, S_X8_takes)
  | 130 => some (1, false, S_X8_kindOf)
  | 133 => some (3, true, S_X8_figure)
  | _ => none
theorem mT_X8_readsChord_ok {l : Launch} {n : Nat} (hn : 4 ≤ n) : ∀ i e, mT_X8_readsChord i = some e → mV l (rmOf n) RX8 i e := by
  intro i e h
  unfold mT_X8_readsChord at h
  split at h
  · cases h; exact mvI (lv := 0) (ci := 7) (T := TX8) (N := 28) mw_X8_isWell rfl (by omega) (by decide) (by decide +kernel) (gtm 888 (by decide +kernel) (by decide +kernel)) rc_X8_isWell ok_X8_isWell
  · cases h; exact mvI (lv := 2) (ci := 7) (T := TX8) (N := 28) mw_X8_takes rfl (by omega) (by decide) (by decide +kernel) (gtm 884 (by decide +kernel) (by decide +kernel)) rc_X8_takes ok_X8_takes
  · cases h; exact mvS (lv := 0) mw_X8_kindOf (by omega) (by decide) (by decide +kernel) (Or.inl (gtm 900 (by decide +kernel) (by decide +kernel))) ok_X8_kindOf
  · cases h; exact mvI (lv := 3) (ci := 7) (T := TX8) (N := 28) mw_X8_figure rfl (by omega) (by decide) (by decide +kernel) (gtm 892 (by decide +kernel) (by decide +kernel)) rc_X8_figure ok_X8_figure
  · cases h
set_option maxRecDepth 100000 in
set_option maxHeartbeats 16000000 in
theorem ok_X8_readsChord : ∀ l n, 4 ≤ n → ∀ a σ Q, S_X8_readsChord a σ Q → AM l n yX8_readsChord cX8_readsChord 8 none a σ Q := by
  intro l n hn a σ Q hS
  unfold S_X8_readsChord at hS
  split at hS
  rotate_left
  · exact hS.elim
  rename_i b f
  obtain ⟨hT, ⟨e1, e2⟩, hr11, hr12, hb, hf, hq⟩ := hS
  obtain ⟨B, hB⟩ : ∃ B, B = σ 63 := ⟨_, rfl⟩
  obtain ⟨L, hL⟩ : ∃ L, L = rL σ := ⟨_, rfl⟩
  rw [← hB, ← hL] at hq
  obtain ⟨t1, t2⟩ := id hT
  have hL' : (L : Int) = σ 58 6 := by rw [hL]; unfold rL; omega
  refine am_ofF 0 cpX8 mT_X8_readsChord (plainFor_of_name (by decide +kernel)) (rfl) (Nat.le_of_ble_eq_true rfl) (cpX8_ok) (mT_X8_readsChord_ok hn) (fun K hK => ?_)
  -- a fault: nothing more is done
  have f184 : ∀ (τ : HP) (kd n la mo : Int), (0 ≤ τ 58 8 ∧ τ 58 8 ≤ 1000) → Q none τ → K 184 [some (.inr (.inl 58)), some (.inl b), some (.inl f), some (.inl kd), some (.inl n), some (.inl la), some (.inl mo), none] [] τ := by
    intro τ kd n la mo h8 hQ
    refine hK (fun _ => false) 40 _ _ _ _ ?_
    simp only [↓wp, ↓stp, ilen, lnth, st1, st2, nolong, nohead, rnth, ↓gfX, ↓pfX, gfV, pfV, cpF, cpP, cndZ, ↓tgo, ↓tsw, ↓lsw, ↓ldI, ↓ldA, ↓ldL, ↓stI, ↓stA, ↓stL, ↓bin, ↓binD, ↓binL, ↓binDL, ↓una, ↓acV, ↓acK, ↓acpy, ↓inv, entL, nones, List.length_cons, List.length_nil, List.take, List.drop, List.reverse_cons, List.reverse_nil, List.nil_append, List.cons_append, Option.toList_some, Option.toList_none, Nat.reduceAdd, Nat.reduceSub, Nat.reduceLT, Nat.reduceEqDiff, Fin.isValue, aTL, aSZ, Int.toNat_natCast, hset_same, hset_o, hset_s, hset_row, ne_eq, Nat.reduceBEq, beq_self_eq_true, Fin.val_zero, Fin.val_one, fin0, fin1, fin2, fin3, Nat.le_refl, Nat.reduceLeDiff, Nat.zero_le, Int.reduceAdd, Int.reduceNeg, Int.reduceLE, Int.reduceLT, Int.reduceToNat, Int.reduceMul, Int.cast_ofNat_Int, Nat.reduceMod, ↓reduceIte, if_true, if_false, and_true, true_and, or_true, true_or, false_or, or_false, and_self, not_true_eq_false, not_false_eq_true, Bool.false_eq_true, reduceCtorEq, false_implies, true_implies, implies_true, and_false, false_and, dX8_readsChord_0, dX8_readsChord_1, dX8_readsChord_4, dX8_readsChord_7, dX8_readsChord_8, dX8_readsChord_9, dX8_readsChord_10, dX8_readsChord_13, dX8_readsChord_14, dX8_readsChord_17, dX8_readsChord_18, dX8_readsChord_21, dX8_readsChord_22, dX8_readsChord_25, dX8_readsChord_26, dX8_readsChord_27, dX8_readsChord_30, dX8_readsChord_31, dX8_readsChord_32, dX8_readsChord_35, dX8_readsChord_38, dX8_readsChord_39, dX8_readsChord_42, dX8_readsChord_43, dX8_readsChord_44, dX8_readsChord_46, dX8_readsChord_49, dX8_readsChord_50, dX8_readsChord_51, dX8_readsChord_54, dX8_readsChord_55, dX8_readsChord_56, dX8_readsChord_59, dX8_readsChord_60, dX8_readsChord_61, dX8_readsChord_64, dX8_readsChord_65, dX8_readsChord_67, dX8_readsChord_68, dX8_readsChord_70, dX8_readsChord_71, dX8_readsChord_74, dX8_readsChord_76, dX8_readsChord_78, dX8_readsChord_81, dX8_readsChord_82, dX8_readsChord_84, dX8_readsChord_85, dX8_readsChord_86, dX8_readsChord_88, dX8_readsChord_91, dX8_readsChord_93, dX8_readsChord_94, dX8_readsChord_97, dX8_readsChord_100, dX8_readsChord_101, dX8_readsChord_104, dX8_readsChord_106, dX8_readsChord_107, dX8_readsChord_110, dX8_readsChord_111, dX8_readsChord_112, dX8_readsChord_113, dX8_readsChord_115, dX8_readsChord_116, dX8_readsChord_118, dX8_readsChord_119, dX8_readsChord_122, dX8_readsChord_123, dX8_readsChord_126, dX8_readsChord_129, dX8_readsChord_130, dX8_readsChord_133, dX8_readsChord_134, dX8_readsChord_137, dX8_readsChord_139, dX8_readsChord_140, dX8_readsChord_143, dX8_readsChord_144, dX8_readsChord_147, dX8_readsChord_148, dX8_readsChord_150, dX8_readsChord_152, dX8_readsChord_155, dX8_readsChord_156, dX8_readsChord_157, dX8_readsChord_158, dX8_readsChord_161, dX8_readsChord_162, dX8_readsChord_165, dX8_readsChord_166, dX8_readsChord_167, dX8_readsChord_170, dX8_readsChord_171, dX8_readsChord_174, dX8_readsChord_175, dX8_readsChord_178, dX8_readsChord_179, dX8_readsChord_180, dX8_readsChord_183, dX8_readsChord_184, dX8_readsChord_185, dX8_readsChord_188, dX8_readsChord_191, dX8_readsChord_192, dX8_readsChord_193, dX8_readsChord_194, dX8_readsChord_197, dX8_readsChord_198, dX8_readsChord_199, dX8_readsChord_200, dX8_readsChord_201, dX8_readsChord_203, dX8_readsChord_204, dX8_readsChord_207, dX8_readsChord_209, dX8_readsChord_210, dX8_readsChord_211, dX8_readsChord_212, dX8_readsChord_215, dX8_readsChord_217, dX8_readsChord_218, dX8_readsChord_219, dX8_readsChord_220, dX8_readsChord_223, dX8_readsChord_224, dX8_readsChord_225, dX8_readsChord_226, dX8_readsChord_227, dX8_readsChord_230, dX8_readsChord_232, dX8_readsChord_233, dX8_readsChord_234, dX8_readsChord_236, dX8_readsChord_237, dX8_readsChord_238, dX8_readsChord_241, dX8_readsChord_243, dX8_readsChord_244, dX8_readsChord_245, dX8_readsChord_246, dX8_readsChord_249, dX8_readsChord_250, dX8_readsChord_253, dX8_readsChord_254, dX8_readsChord_255, dX8_readsChord_256, dX8_readsChord_259, dX8_readsChord_261, dX8_readsChord_262, dX8_readsChord_263, dX8_readsChord_264, dX8_readsChord_267, dX8_readsChord_268, dX8_readsChord_271, dX8_readsChord_272, dX8_readsChord_273, dX8_readsChord_274, dX8_readsChord_277, dX8_readsChord_278, dX8_readsChord_279, dX8_readsChord_280, dX8_readsChord_281, dX8_readsChord_282, dX8_readsChord_283, dX8_readsChord_284, dX8_readsChord_287, dX8_readsChord_288, dX8_readsChord_289, dX8_readsChord_290, dX8_readsChord_292, dX8_readsChord_293, dX8_readsChord_294, cpX8, mT_X8_readsChord, SHl_58, SHl_59, SHl_60, SHl_61, SHl_62, SHl_63, SHl_64, SHl_65, SHl_66, SHl_67, SHl_68, SHl_69, SHl_70, SHl_71, SHl_72, SHl_73, SHl_74, SHl_75, S_X8_figure, S_X8_isWell, S_X8_kindOf, S_X8_takes]
    rw [if_neg (by omega)]
    refine ⟨⟨by omega, by omega⟩, ⟨by decide, by decide⟩, fun _ => hQ, fun z => absurd rfl z⟩
  have f165 : ∀ (τ : HP) (kd n la mo : Int), rtk τ → (0 ≤ τ 58 8 ∧ τ 58 8 ≤ 1000) → R32 (τ 58 11) → Q none τ → K 165 [some (.inr (.inl 58)), some (.inl b), some (.inl f), some (.inl kd), some (.inl n), some (.inl la), some (.inl mo), none] [] τ := by
    intro τ kd n la mo hr h8 h11 hQ
    have := fun x => f184 τ kd n la x h8 hQ
    refine hK (fun q => q == 184) 40 _ _ _ _ ?_
    simp only [↓wp, ↓stp, ilen, lnth, st1, st2, nolong, nohead, rnth, ↓gfX, ↓pfX, gfV, pfV, cpF, cpP, cndZ, ↓tgo, ↓tsw, ↓lsw, ↓ldI, ↓ldA, ↓ldL, ↓stI, ↓stA, ↓stL, ↓bin, ↓binD, ↓binL, ↓binDL, ↓una, ↓acV, ↓acK, ↓acpy, ↓inv, entL, nones, List.length_cons, List.length_nil, List.take, List.drop, List.reverse_cons, List.reverse_nil, List.nil_append, List.cons_append, Option.toList_some, Option.toList_none, Nat.reduceAdd, Nat.reduceSub, Nat.reduceLT, Nat.reduceEqDiff, Fin.isValue, aTL, aSZ, Int.toNat_natCast, hset_same, hset_o, hset_s, hset_row, ne_eq, Nat.reduceBEq, beq_self_eq_true, Fin.val_zero, Fin.val_one, fin0, fin1, fin2, fin3, Nat.le_refl, Nat.reduceLeDiff, Nat.zero_le, Int.reduceAdd, Int.reduceNeg, Int.reduceLE, Int.reduceLT, Int.reduceToNat, Int.reduceMul, Int.cast_ofNat_Int, Nat.reduceMod, ↓reduceIte, if_true, if_false, and_true, true_and, or_true, true_or, false_or, or_false, and_self, not_true_eq_false, not_false_eq_true, Bool.false_eq_true, reduceCtorEq, false_implies, true_implies, implies_true, and_false, false_and, dX8_readsChord_0, dX8_readsChord_1, dX8_readsChord_4, dX8_readsChord_7, dX8_readsChord_8, dX8_readsChord_9, dX8_readsChord_10, dX8_readsChord_13, dX8_readsChord_14, dX8_readsChord_17, dX8_readsChord_18, dX8_readsChord_21, dX8_readsChord_22, dX8_readsChord_25, dX8_readsChord_26, dX8_readsChord_27, dX8_readsChord_30, dX8_readsChord_31, dX8_readsChord_32, dX8_readsChord_35, dX8_readsChord_38, dX8_readsChord_39, dX8_readsChord_42, dX8_readsChord_43, dX8_readsChord_44, dX8_readsChord_46, dX8_readsChord_49, dX8_readsChord_50, dX8_readsChord_51, dX8_readsChord_54, dX8_readsChord_55, dX8_readsChord_56, dX8_readsChord_59, dX8_readsChord_60, dX8_readsChord_61, dX8_readsChord_64, dX8_readsChord_65, dX8_readsChord_67, dX8_readsChord_68, dX8_readsChord_70, dX8_readsChord_71, dX8_readsChord_74, dX8_readsChord_76, dX8_readsChord_78, dX8_readsChord_81, dX8_readsChord_82, dX8_readsChord_84, dX8_readsChord_85, dX8_readsChord_86, dX8_readsChord_88, dX8_readsChord_91, dX8_readsChord_93, dX8_readsChord_94, dX8_readsChord_97, dX8_readsChord_100, dX8_readsChord_101, dX8_readsChord_104, dX8_readsChord_106, dX8_readsChord_107, dX8_readsChord_110, dX8_readsChord_111, dX8_readsChord_112, dX8_readsChord_113, dX8_readsChord_115, dX8_readsChord_116, dX8_readsChord_118, dX8_readsChord_119, dX8_readsChord_122, dX8_readsChord_123, dX8_readsChord_126, dX8_readsChord_129, dX8_readsChord_130, dX8_readsChord_133, dX8_readsChord_134, dX8_readsChord_137, dX8_readsChord_139, dX8_readsChord_140, dX8_readsChord_143, dX8_readsChord_144, dX8_readsChord_147, dX8_readsChord_148, dX8_readsChord_150, dX8_readsChord_152, dX8_readsChord_155, dX8_readsChord_156, dX8_readsChord_157, dX8_readsChord_158, dX8_readsChord_161, dX8_readsChord_162, dX8_readsChord_165, dX8_readsChord_166, dX8_readsChord_167, dX8_readsChord_170, dX8_readsChord_171, dX8_readsChord_174, dX8_readsChord_175, dX8_readsChord_178, dX8_readsChord_179, dX8_readsChord_180, dX8_readsChord_183, dX8_readsChord_184, dX8_readsChord_185, dX8_readsChord_188, dX8_readsChord_191, dX8_readsChord_192, dX8_readsChord_193, dX8_readsChord_194, dX8_readsChord_197, dX8_readsChord_198, dX8_readsChord_199, dX8_readsChord_200, dX8_readsChord_201, dX8_readsChord_203, dX8_readsChord_204, dX8_readsChord_207, dX8_readsChord_209, dX8_readsChord_210, dX8_readsChord_211, dX8_readsChord_212, dX8_readsChord_215, dX8_readsChord_217, dX8_readsChord_218, dX8_readsChord_219, dX8_readsChord_220, dX8_readsChord_223, dX8_readsChord_224, dX8_readsChord_225, dX8_readsChord_226, dX8_readsChord_227, dX8_readsChord_230, dX8_readsChord_232, dX8_readsChord_233, dX8_readsChord_234, dX8_readsChord_236, dX8_readsChord_237, dX8_readsChord_238, dX8_readsChord_241, dX8_readsChord_243, dX8_readsChord_244, dX8_readsChord_245, dX8_readsChord_246, dX8_readsChord_249, dX8_readsChord_250, dX8_readsChord_253, dX8_readsChord_254, dX8_readsChord_255, dX8_readsChord_256, dX8_readsChord_259, dX8_readsChord_261, dX8_readsChord_262, dX8_readsChord_263, dX8_readsChord_264, dX8_readsChord_267, dX8_readsChord_268, dX8_readsChord_271, dX8_readsChord_272, dX8_readsChord_273, dX8_readsChord_274, dX8_readsChord_277, dX8_readsChord_278, dX8_readsChord_279, dX8_readsChord_280, dX8_readsChord_281, dX8_readsChord_282, dX8_readsChord_283, dX8_readsChord_284, dX8_readsChord_287, dX8_readsChord_288, dX8_readsChord_289, dX8_readsChord_290, dX8_readsChord_292, dX8_readsChord_293, dX8_readsChord_294, cpX8, mT_X8_readsChord, SHl_58, SHl_59, SHl_60, SHl_61, SHl_62, SHl_63, SHl_64, SHl_65, SHl_66, SHl_67, SHl_68, SHl_69, SHl_70, SHl_71, SHl_72, SHl_73, SHl_74, SHl_75, S_X8_figure, S_X8_isWell, S_X8_kindOf, S_X8_takes]
    rw [if_pos h8.1, if_pos h8.1]
    refine ⟨h11, ⟨by decide, by decide⟩, fun _ => ⟨hr, ⟨by omega, by omega⟩, Or.inl rfl, this _⟩, fun _ => ⟨hr, ⟨by omega, by omega⟩, Or.inr rfl, this _⟩⟩
  have g76 : ∀ (τ : HP) (kd n la : Int), K 165 [some (.inr (.inl 58)), some (.inl b), some (.inl f), some (.inl kd), some (.inl n), some (.inl la), some (.inl 0), none] [] τ → K 76 [some (.inr (.inl 58)), some (.inl b), some (.inl f), some (.inl kd), some (.inl n), some (.inl la), some (.inl 0), none] [] τ := by
    intro τ kd n la h
    refine hK (fun q => q == 165) 40 _ _ _ _ ?_
    simp only [↓wp, ↓stp, ilen, lnth, st1, st2, nolong, nohead, rnth, ↓gfX, ↓pfX, gfV, pfV, cpF, cpP, cndZ, ↓tgo, ↓tsw, ↓lsw, ↓ldI, ↓ldA, ↓ldL, ↓stI, ↓stA, ↓stL, ↓bin, ↓binD, ↓binL, ↓binDL, ↓una, ↓acV, ↓acK, ↓acpy, ↓inv, entL, nones, List.length_cons, List.length_nil, List.take, List.drop, List.reverse_cons, List.reverse_nil, List.nil_append, List.cons_append, Option.toList_some, Option.toList_none, Nat.reduceAdd, Nat.reduceSub, Nat.reduceLT, Nat.reduceEqDiff, Fin.isValue, aTL, aSZ, Int.toNat_natCast, hset_same, hset_o, hset_s, hset_row, ne_eq, Nat.reduceBEq, beq_self_eq_true, Fin.val_zero, Fin.val_one, fin0, fin1, fin2, fin3, Nat.le_refl, Nat.reduceLeDiff, Nat.zero_le, Int.reduceAdd, Int.reduceNeg, Int.reduceLE, Int.reduceLT, Int.reduceToNat, Int.reduceMul, Int.cast_ofNat_Int, Nat.reduceMod, ↓reduceIte, if_true, if_false, and_true, true_and, or_true, true_or, false_or, or_false, and_self, not_true_eq_false, not_false_eq_true, Bool.false_eq_true, reduceCtorEq, false_implies, true_implies, implies_true, and_false, false_and, dX8_readsChord_0, dX8_readsChord_1, dX8_readsChord_4, dX8_readsChord_7, dX8_readsChord_8, dX8_readsChord_9, dX8_readsChord_10, dX8_readsChord_13, dX8_readsChord_14, dX8_readsChord_17, dX8_readsChord_18, dX8_readsChord_21, dX8_readsChord_22, dX8_readsChord_25, dX8_readsChord_26, dX8_readsChord_27, dX8_readsChord_30, dX8_readsChord_31, dX8_readsChord_32, dX8_readsChord_35, dX8_readsChord_38, dX8_readsChord_39, dX8_readsChord_42, dX8_readsChord_43, dX8_readsChord_44, dX8_readsChord_46, dX8_readsChord_49, dX8_readsChord_50, dX8_readsChord_51, dX8_readsChord_54, dX8_readsChord_55, dX8_readsChord_56, dX8_readsChord_59, dX8_readsChord_60, dX8_readsChord_61, dX8_readsChord_64, dX8_readsChord_65, dX8_readsChord_67, dX8_readsChord_68, dX8_readsChord_70, dX8_readsChord_71, dX8_readsChord_74, dX8_readsChord_76, dX8_readsChord_78, dX8_readsChord_81, dX8_readsChord_82, dX8_readsChord_84, dX8_readsChord_85, dX8_readsChord_86, dX8_readsChord_88, dX8_readsChord_91, dX8_readsChord_93, dX8_readsChord_94, dX8_readsChord_97, dX8_readsChord_100, dX8_readsChord_101, dX8_readsChord_104, dX8_readsChord_106, dX8_readsChord_107, dX8_readsChord_110, dX8_readsChord_111, dX8_readsChord_112, dX8_readsChord_113, dX8_readsChord_115, dX8_readsChord_116, dX8_readsChord_118, dX8_readsChord_119, dX8_readsChord_122, dX8_readsChord_123, dX8_readsChord_126, dX8_readsChord_129, dX8_readsChord_130, dX8_readsChord_133, dX8_readsChord_134, dX8_readsChord_137, dX8_readsChord_139, dX8_readsChord_140, dX8_readsChord_143, dX8_readsChord_144, dX8_readsChord_147, dX8_readsChord_148, dX8_readsChord_150, dX8_readsChord_152, dX8_readsChord_155, dX8_readsChord_156, dX8_readsChord_157, dX8_readsChord_158, dX8_readsChord_161, dX8_readsChord_162, dX8_readsChord_165, dX8_readsChord_166, dX8_readsChord_167, dX8_readsChord_170, dX8_readsChord_171, dX8_readsChord_174, dX8_readsChord_175, dX8_readsChord_178, dX8_readsChord_179, dX8_readsChord_180, dX8_readsChord_183, dX8_readsChord_184, dX8_readsChord_185, dX8_readsChord_188, dX8_readsChord_191, dX8_readsChord_192, dX8_readsChord_193, dX8_readsChord_194, dX8_readsChord_197, dX8_readsChord_198, dX8_readsChord_199, dX8_readsChord_200, dX8_readsChord_201, dX8_readsChord_203, dX8_readsChord_204, dX8_readsChord_207, dX8_readsChord_209, dX8_readsChord_210, dX8_readsChord_211, dX8_readsChord_212, dX8_readsChord_215, dX8_readsChord_217, dX8_readsChord_218, dX8_readsChord_219, dX8_readsChord_220, dX8_readsChord_223, dX8_readsChord_224, dX8_readsChord_225, dX8_readsChord_226, dX8_readsChord_227, dX8_readsChord_230, dX8_readsChord_232, dX8_readsChord_233, dX8_readsChord_234, dX8_readsChord_236, dX8_readsChord_237, dX8_readsChord_238, dX8_readsChord_241, dX8_readsChord_243, dX8_readsChord_244, dX8_readsChord_245, dX8_readsChord_246, dX8_readsChord_249, dX8_readsChord_250, dX8_readsChord_253, dX8_readsChord_254, dX8_readsChord_255, dX8_readsChord_256, dX8_readsChord_259, dX8_readsChord_261, dX8_readsChord_262, dX8_readsChord_263, dX8_readsChord_264, dX8_readsChord_267, dX8_readsChord_268, dX8_readsChord_271, dX8_readsChord_272, dX8_readsChord_273, dX8_readsChord_274, dX8_readsChord_277, dX8_readsChord_278, dX8_readsChord_279, dX8_readsChord_280, dX8_readsChord_281, dX8_readsChord_282, dX8_readsChord_283, dX8_readsChord_284, dX8_readsChord_287, dX8_readsChord_288, dX8_readsChord_289, dX8_readsChord_290, dX8_readsChord_292, dX8_readsChord_293, dX8_readsChord_294, cpX8, mT_X8_readsChord, SHl_58, SHl_59, SHl_60, SHl_61, SHl_62, SHl_63, SHl_64, SHl_65, SHl_66, SHl_67, SHl_68, SHl_69, SHl_70, SHl_71, SHl_72, SHl_73, SHl_74, SHl_75, S_X8_figure, S_X8_isWell, S_X8_kindOf, S_X8_takes]
    exact ⟨⟨by decide, by decide⟩, fun _ => h, fun z => absurd rfl z⟩
  have f31 : ∀ (τ : HP) (kd : Int), rtk τ → (0 ≤ τ 58 8 ∧ τ 58 8 ≤ 1000) → R32 (τ 58 11) → Q none τ → K 31 [some (.inr (.inl 58)), some (.inl b), some (.inl f), some (.inl kd), none, none, none, none] [] τ := by
    intro τ kd hr h8 h11 hQ
    have := g76 τ kd 0 (-1) (f165 τ kd 0 (-1) 0 hr h8 h11 hQ)
    refine hK (fun q => q == 76) 40 _ _ _ _ ?_
    simp only [↓wp, ↓stp, ilen, lnth, st1, st2, nolong, nohead, rnth, ↓gfX, ↓pfX, gfV, pfV, cpF, cpP, cndZ, ↓tgo, ↓tsw, ↓lsw, ↓ldI, ↓ldA, ↓ldL, ↓stI, ↓stA, ↓stL, ↓bin, ↓binD, ↓binL, ↓binDL, ↓una, ↓acV, ↓acK, ↓acpy, ↓inv, entL, nones, List.length_cons, List.length_nil, List.take, List.drop, List.reverse_cons, List.reverse_nil, List.nil_append, List.cons_append, Option.toList_some, Option.toList_none, Nat.reduceAdd, Nat.reduceSub, Nat.reduceLT, Nat.reduceEqDiff, Fin.isValue, aTL, aSZ, Int.toNat_natCast, hset_same, hset_o, hset_s, hset_row, ne_eq, Nat.reduceBEq, beq_self_eq_true, Fin.val_zero, Fin.val_one, fin0, fin1, fin2, fin3, Nat.le_refl, Nat.reduceLeDiff, Nat.zero_le, Int.reduceAdd, Int.reduceNeg, Int.reduceLE, Int.reduceLT, Int.reduceToNat, Int.reduceMul, Int.cast_ofNat_Int, Nat.reduceMod, ↓reduceIte, if_true, if_false, and_true, true_and, or_true, true_or, false_or, or_false, and_self, not_true_eq_false, not_false_eq_true, Bool.false_eq_true, reduceCtorEq, false_implies, true_implies, implies_true, and_false, false_and, dX8_readsChord_0, dX8_readsChord_1, dX8_readsChord_4, dX8_readsChord_7, dX8_readsChord_8, dX8_readsChord_9, dX8_readsChord_10, dX8_readsChord_13, dX8_readsChord_14, dX8_readsChord_17, dX8_readsChord_18, dX8_readsChord_21, dX8_readsChord_22, dX8_readsChord_25, dX8_readsChord_26, dX8_readsChord_27, dX8_readsChord_30, dX8_readsChord_31, dX8_readsChord_32, dX8_readsChord_35, dX8_readsChord_38, dX8_readsChord_39, dX8_readsChord_42, dX8_readsChord_43, dX8_readsChord_44, dX8_readsChord_46, dX8_readsChord_49, dX8_readsChord_50, dX8_readsChord_51, dX8_readsChord_54, dX8_readsChord_55, dX8_readsChord_56, dX8_readsChord_59, dX8_readsChord_60, dX8_readsChord_61, dX8_readsChord_64, dX8_readsChord_65, dX8_readsChord_67, dX8_readsChord_68, dX8_readsChord_70, dX8_readsChord_71, dX8_readsChord_74, dX8_readsChord_76, dX8_readsChord_78, dX8_readsChord_81, dX8_readsChord_82, dX8_readsChord_84, dX8_readsChord_85, dX8_readsChord_86, dX8_readsChord_88, dX8_readsChord_91, dX8_readsChord_93, dX8_readsChord_94, dX8_readsChord_97, dX8_readsChord_100, dX8_readsChord_101, dX8_readsChord_104, dX8_readsChord_106, dX8_readsChord_107, dX8_readsChord_110, dX8_readsChord_111, dX8_readsChord_112, dX8_readsChord_113, dX8_readsChord_115, dX8_readsChord_116, dX8_readsChord_118, dX8_readsChord_119, dX8_readsChord_122, dX8_readsChord_123, dX8_readsChord_126, dX8_readsChord_129, dX8_readsChord_130, dX8_readsChord_133, dX8_readsChord_134, dX8_readsChord_137, dX8_readsChord_139, dX8_readsChord_140, dX8_readsChord_143, dX8_readsChord_144, dX8_readsChord_147, dX8_readsChord_148, dX8_readsChord_150, dX8_readsChord_152, dX8_readsChord_155, dX8_readsChord_156, dX8_readsChord_157, dX8_readsChord_158, dX8_readsChord_161, dX8_readsChord_162, dX8_readsChord_165, dX8_readsChord_166, dX8_readsChord_167, dX8_readsChord_170, dX8_readsChord_171, dX8_readsChord_174, dX8_readsChord_175, dX8_readsChord_178, dX8_readsChord_179, dX8_readsChord_180, dX8_readsChord_183, dX8_readsChord_184, dX8_readsChord_185, dX8_readsChord_188, dX8_readsChord_191, dX8_readsChord_192, dX8_readsChord_193, dX8_readsChord_194, dX8_readsChord_197, dX8_readsChord_198, dX8_readsChord_199, dX8_readsChord_200, dX8_readsChord_201, dX8_readsChord_203, dX8_readsChord_204, dX8_readsChord_207, dX8_readsChord_209, dX8_readsChord_210, dX8_readsChord_211, dX8_readsChord_212, dX8_readsChord_215, dX8_readsChord_217, dX8_readsChord_218, dX8_readsChord_219, dX8_readsChord_220, dX8_readsChord_223, dX8_readsChord_224, dX8_readsChord_225, dX8_readsChord_226, dX8_readsChord_227, dX8_readsChord_230, dX8_readsChord_232, dX8_readsChord_233, dX8_readsChord_234, dX8_readsChord_236, dX8_readsChord_237, dX8_readsChord_238, dX8_readsChord_241, dX8_readsChord_243, dX8_readsChord_244, dX8_readsChord_245, dX8_readsChord_246, dX8_readsChord_249, dX8_readsChord_250, dX8_readsChord_253, dX8_readsChord_254, dX8_readsChord_255, dX8_readsChord_256, dX8_readsChord_259, dX8_readsChord_261, dX8_readsChord_262, dX8_readsChord_263, dX8_readsChord_264, dX8_readsChord_267, dX8_readsChord_268, dX8_readsChord_271, dX8_readsChord_272, dX8_readsChord_273, dX8_readsChord_274, dX8_readsChord_277, dX8_readsChord_278, dX8_readsChord_279, dX8_readsChord_280, dX8_readsChord_281, dX8_readsChord_282, dX8_readsChord_283, dX8_readsChord_284, dX8_readsChord_287, dX8_readsChord_288, dX8_readsChord_289, dX8_readsChord_290, dX8_readsChord_292, dX8_readsChord_293, dX8_readsChord_294, cpX8, mT_X8_readsChord, SHl_58, SHl_59, SHl_60, SHl_61, SHl_62, SHl_63, SHl_64, SHl_65, SHl_66, SHl_67, SHl_68, SHl_69, SHl_70, SHl_71, SHl_72, SHl_73, SHl_74, SHl_75, S_X8_figure, S_X8_isWell, S_X8_kindOf, S_X8_takes]
    rw [if_neg (by omega)]
    exact ⟨⟨by omega, by omega⟩, ⟨by decide, by decide⟩, fun _ => ⟨⟨by omega, by omega⟩, this⟩, fun z => absurd rfl z⟩
  by_cases h8 : 0 ≤ σ 58 8
  · rw [if_pos h8] at hq
    -- not well from the beginning
    have h8' : R32 (σ 58 8) := ⟨e1, e2⟩
    have a184 : ∀ (kd n la mo : Int), K 184 [some (.inr (.inl 58)), some (.inl b), some (.inl f), some (.inl kd), some (.inl n), some (.inl la), some (.inl mo), none] [] σ := by
      intro kd n la mo
      refine hK (fun _ => false) 40 _ _ _ _ ?_
      simp only [↓wp, ↓stp, ilen, lnth, st1, st2, nolong, nohead, rnth, ↓gfX, ↓pfX, gfV, pfV, cpF, cpP, cndZ, ↓tgo, ↓tsw, ↓lsw, ↓ldI, ↓ldA, ↓ldL, ↓stI, ↓stA, ↓stL, ↓bin, ↓binD, ↓binL, ↓binDL, ↓una, ↓acV, ↓acK, ↓acpy, ↓inv, entL, nones, List.length_cons, List.length_nil, List.take, List.drop, List.reverse_cons, List.reverse_nil, List.nil_append, List.cons_append, Option.toList_some, Option.toList_none, Nat.reduceAdd, Nat.reduceSub, Nat.reduceLT, Nat.reduceEqDiff, Fin.isValue, aTL, aSZ, Int.toNat_natCast, hset_same, hset_o, hset_s, hset_row, ne_eq, Nat.reduceBEq, beq_self_eq_true, Fin.val_zero, Fin.val_one, fin0, fin1, fin2, fin3, Nat.le_refl, Nat.reduceLeDiff, Nat.zero_le, Int.reduceAdd, Int.reduceNeg, Int.reduceLE, Int.reduceLT, Int.reduceToNat, Int.reduceMul, Int.cast_ofNat_Int, Nat.reduceMod, ↓reduceIte, if_true, if_false, and_true, true_and, or_true, true_or, false_or, or_false, and_self, not_true_eq_false, not_false_eq_true, Bool.false_eq_true, reduceCtorEq, false_implies, true_implies, implies_true, and_false, false_and, dX8_readsChord_0, dX8_readsChord_1, dX8_readsChord_4, dX8_readsChord_7, dX8_readsChord_8, dX8_readsChord_9, dX8_readsChord_10, dX8_readsChord_13, dX8_readsChord_14, dX8_readsChord_17, dX8_readsChord_18, dX8_readsChord_21, dX8_readsChord_22, dX8_readsChord_25, dX8_readsChord_26, dX8_readsChord_27, dX8_readsChord_30, dX8_readsChord_31, dX8_readsChord_32, dX8_readsChord_35, dX8_readsChord_38, dX8_readsChord_39, dX8_readsChord_42, dX8_readsChord_43, dX8_readsChord_44, dX8_readsChord_46, dX8_readsChord_49, dX8_readsChord_50, dX8_readsChord_51, dX8_readsChord_54, dX8_readsChord_55, dX8_readsChord_56, dX8_readsChord_59, dX8_readsChord_60, dX8_readsChord_61, dX8_readsChord_64, dX8_readsChord_65, dX8_readsChord_67, dX8_readsChord_68, dX8_readsChord_70, dX8_readsChord_71, dX8_readsChord_74, dX8_readsChord_76, dX8_readsChord_78, dX8_readsChord_81, dX8_readsChord_82, dX8_readsChord_84, dX8_readsChord_85, dX8_readsChord_86, dX8_readsChord_88, dX8_readsChord_91, dX8_readsChord_93, dX8_readsChord_94, dX8_readsChord_97, dX8_readsChord_100, dX8_readsChord_101, dX8_readsChord_104, dX8_readsChord_106, dX8_readsChord_107, dX8_readsChord_110, dX8_readsChord_111, dX8_readsChord_112, dX8_readsChord_113, dX8_readsChord_115, dX8_readsChord_116, dX8_readsChord_118, dX8_readsChord_119, dX8_readsChord_122, dX8_readsChord_123, dX8_readsChord_126, dX8_readsChord_129, dX8_readsChord_130, dX8_readsChord_133, dX8_readsChord_134, dX8_readsChord_137, dX8_readsChord_139, dX8_readsChord_140, dX8_readsChord_143, dX8_readsChord_144, dX8_readsChord_147, dX8_readsChord_148, dX8_readsChord_150, dX8_readsChord_152, dX8_readsChord_155, dX8_readsChord_156, dX8_readsChord_157, dX8_readsChord_158, dX8_readsChord_161, dX8_readsChord_162, dX8_readsChord_165, dX8_readsChord_166, dX8_readsChord_167, dX8_readsChord_170, dX8_readsChord_171, dX8_readsChord_174, dX8_readsChord_175, dX8_readsChord_178, dX8_readsChord_179, dX8_readsChord_180, dX8_readsChord_183, dX8_readsChord_184, dX8_readsChord_185, dX8_readsChord_188, dX8_readsChord_191, dX8_readsChord_192, dX8_readsChord_193, dX8_readsChord_194, dX8_readsChord_197, dX8_readsChord_198, dX8_readsChord_199, dX8_readsChord_200, dX8_readsChord_201, dX8_readsChord_203, dX8_readsChord_204, dX8_readsChord_207, dX8_readsChord_209, dX8_readsChord_210, dX8_readsChord_211, dX8_readsChord_212, dX8_readsChord_215, dX8_readsChord_217, dX8_readsChord_218, dX8_readsChord_219, dX8_readsChord_220, dX8_readsChord_223, dX8_readsChord_224, dX8_readsChord_225, dX8_readsChord_226, dX8_readsChord_227, dX8_readsChord_230, dX8_readsChord_232, dX8_readsChord_233, dX8_readsChord_234, dX8_readsChord_236, dX8_readsChord_237, dX8_readsChord_238, dX8_readsChord_241, dX8_readsChord_243, dX8_readsChord_244, dX8_readsChord_245, dX8_readsChord_246, dX8_readsChord_249, dX8_readsChord_250, dX8_readsChord_253, dX8_readsChord_254, dX8_readsChord_255, dX8_readsChord_256, dX8_readsChord_259, dX8_readsChord_261, dX8_readsChord_262, dX8_readsChord_263, dX8_readsChord_264, dX8_readsChord_267, dX8_readsChord_268, dX8_readsChord_271, dX8_readsChord_272, dX8_readsChord_273, dX8_readsChord_274, dX8_readsChord_277, dX8_readsChord_278, dX8_readsChord_279, dX8_readsChord_280, dX8_readsChord_281, dX8_readsChord_282, dX8_readsChord_283, dX8_readsChord_284, dX8_readsChord_287, dX8_readsChord_288, dX8_readsChord_289, dX8_readsChord_290, dX8_readsChord_292, dX8_readsChord_293, dX8_readsChord_294, cpX8, mT_X8_readsChord, SHl_58, SHl_59, SHl_60, SHl_61, SHl_62, SHl_63, SHl_64, SHl_65, SHl_66, SHl_67, SHl_68, SHl_69, SHl_70, SHl_71, SHl_72, SHl_73, SHl_74, SHl_75, S_X8_figure, S_X8_isWell, S_X8_kindOf, S_X8_takes]
      rw [if_neg (by omega)]
      refine ⟨h8', ⟨by decide, by decide⟩, fun _ => hq, fun z => absurd rfl z⟩
    have a165 : ∀ (kd n la mo : Int), K 165 [some (.inr (.inl 58)), some (.inl b), some (.inl f), some (.inl kd), some (.inl n), some (.inl la), some (.inl mo), none] [] σ := by
      intro kd n la mo
      refine hK (fun q => q == 184) 40 _ _ _ _ ?_
      simp only [↓wp, ↓stp, ilen, lnth, st1, st2, nolong, nohead, rnth, ↓gfX, ↓pfX, gfV, pfV, cpF, cpP, cndZ, ↓tgo, ↓tsw, ↓lsw, ↓ldI, ↓ldA, ↓ldL, ↓stI, ↓stA, ↓stL, ↓bin, ↓binD, ↓binL, ↓binDL, ↓una, ↓acV, ↓acK, ↓acpy, ↓inv, entL, nones, List.length_cons, List.length_nil, List.take, List.drop, List.reverse_cons, List.reverse_nil, List.nil_append, List.cons_append, Option.toList_some, Option.toList_none, Nat.reduceAdd, Nat.reduceSub, Nat.reduceLT, Nat.reduceEqDiff, Fin.isValue, aTL, aSZ, Int.toNat_natCast, hset_same, hset_o, hset_s, hset_row, ne_eq, Nat.reduceBEq, beq_self_eq_true, Fin.val_zero, Fin.val_one, fin0, fin1, fin2, fin3, Nat.le_refl, Nat.reduceLeDiff, Nat.zero_le, Int.reduceAdd, Int.reduceNeg, Int.reduceLE, Int.reduceLT, Int.reduceToNat, Int.reduceMul, Int.cast_ofNat_Int, Nat.reduceMod, ↓reduceIte, if_true, if_false, and_true, true_and, or_true, true_or, false_or, or_false, and_self, not_true_eq_false, not_false_eq_true, Bool.false_eq_true, reduceCtorEq, false_implies, true_implies, implies_true, and_false, false_and, dX8_readsChord_0, dX8_readsChord_1, dX8_readsChord_4, dX8_readsChord_7, dX8_readsChord_8, dX8_readsChord_9, dX8_readsChord_10, dX8_readsChord_13, dX8_readsChord_14, dX8_readsChord_17, dX8_readsChord_18, dX8_readsChord_21, dX8_readsChord_22, dX8_readsChord_25, dX8_readsChord_26, dX8_readsChord_27, dX8_readsChord_30, dX8_readsChord_31, dX8_readsChord_32, dX8_readsChord_35, dX8_readsChord_38, dX8_readsChord_39, dX8_readsChord_42, dX8_readsChord_43, dX8_readsChord_44, dX8_readsChord_46, dX8_readsChord_49, dX8_readsChord_50, dX8_readsChord_51, dX8_readsChord_54, dX8_readsChord_55, dX8_readsChord_56, dX8_readsChord_59, dX8_readsChord_60, dX8_readsChord_61, dX8_readsChord_64, dX8_readsChord_65, dX8_readsChord_67, dX8_readsChord_68, dX8_readsChord_70, dX8_readsChord_71, dX8_readsChord_74, dX8_readsChord_76, dX8_readsChord_78, dX8_readsChord_81, dX8_readsChord_82, dX8_readsChord_84, dX8_readsChord_85, dX8_readsChord_86, dX8_readsChord_88, dX8_readsChord_91, dX8_readsChord_93, dX8_readsChord_94, dX8_readsChord_97, dX8_readsChord_100, dX8_readsChord_101, dX8_readsChord_104, dX8_readsChord_106, dX8_readsChord_107, dX8_readsChord_110, dX8_readsChord_111, dX8_readsChord_112, dX8_readsChord_113, dX8_readsChord_115, dX8_readsChord_116, dX8_readsChord_118, dX8_readsChord_119, dX8_readsChord_122, dX8_readsChord_123, dX8_readsChord_126, dX8_readsChord_129, dX8_readsChord_130, dX8_readsChord_133, dX8_readsChord_134, dX8_readsChord_137, dX8_readsChord_139, dX8_readsChord_140, dX8_readsChord_143, dX8_readsChord_144, dX8_readsChord_147, dX8_readsChord_148, dX8_readsChord_150, dX8_readsChord_152, dX8_readsChord_155, dX8_readsChord_156, dX8_readsChord_157, dX8_readsChord_158, dX8_readsChord_161, dX8_readsChord_162, dX8_readsChord_165, dX8_readsChord_166, dX8_readsChord_167, dX8_readsChord_170, dX8_readsChord_171, dX8_readsChord_174, dX8_readsChord_175, dX8_readsChord_178, dX8_readsChord_179, dX8_readsChord_180, dX8_readsChord_183, dX8_readsChord_184, dX8_readsChord_185, dX8_readsChord_188, dX8_readsChord_191, dX8_readsChord_192, dX8_readsChord_193, dX8_readsChord_194, dX8_readsChord_197, dX8_readsChord_198, dX8_readsChord_199, dX8_readsChord_200, dX8_readsChord_201, dX8_readsChord_203, dX8_readsChord_204, dX8_readsChord_207, dX8_readsChord_209, dX8_readsChord_210, dX8_readsChord_211, dX8_readsChord_212, dX8_readsChord_215, dX8_readsChord_217, dX8_readsChord_218, dX8_readsChord_219, dX8_readsChord_220, dX8_readsChord_223, dX8_readsChord_224, dX8_readsChord_225, dX8_readsChord_226, dX8_readsChord_227, dX8_readsChord_230, dX8_readsChord_232, dX8_readsChord_233, dX8_readsChord_234, dX8_readsChord_236, dX8_readsChord_237, dX8_readsChord_238, dX8_readsChord_241, dX8_readsChord_243, dX8_readsChord_244, dX8_readsChord_245, dX8_readsChord_246, dX8_readsChord_249, dX8_readsChord_250, dX8_readsChord_253, dX8_readsChord_254, dX8_readsChord_255, dX8_readsChord_256, dX8_readsChord_259, dX8_readsChord_261, dX8_readsChord_262, dX8_readsChord_263, dX8_readsChord_264, dX8_readsChord_267, dX8_readsChord_268, dX8_readsChord_271, dX8_readsChord_272, dX8_readsChord_273, dX8_readsChord_274, dX8_readsChord_277, dX8_readsChord_278, dX8_readsChord_279, dX8_readsChord_280, dX8_readsChord_281, dX8_readsChord_282, dX8_readsChord_283, dX8_readsChord_284, dX8_readsChord_287, dX8_readsChord_288, dX8_readsChord_289, dX8_readsChord_290, dX8_readsChord_292, dX8_readsChord_293, dX8_readsChord_294, cpX8, mT_X8_readsChord, SHl_58, SHl_59, SHl_60, SHl_61, SHl_62, SHl_63, SHl_64, SHl_65, SHl_66, SHl_67, SHl_68, SHl_69, SHl_70, SHl_71, SHl_72, SHl_73, SHl_74, SHl_75, S_X8_figure, S_X8_isWell, S_X8_kindOf, S_X8_takes]
      rw [if_pos h8, if_pos h8]
      refine ⟨hr11, ⟨by decide, by decide⟩, fun _ => ⟨hT, h8', Or.inl rfl, a184 _ _ _ _⟩, fun _ => ⟨hT, h8', Or.inr rfl, a184 _ _ _ _⟩⟩
    have a31 : ∀ kd : Int, K 31 [some (.inr (.inl 58)), some (.inl b), some (.inl f), some (.inl kd), none, none, none, none] [] σ := by
      intro kd
      have := g76 σ kd 0 (-1) (a165 kd 0 (-1) 0)
      refine hK (fun q => q == 76) 40 _ _ _ _ ?_
      simp only [↓wp, ↓stp, ilen, lnth, st1, st2, nolong, nohead, rnth, ↓gfX, ↓pfX, gfV, pfV, cpF, cpP, cndZ, ↓tgo, ↓tsw, ↓lsw, ↓ldI, ↓ldA, ↓ldL, ↓stI, ↓stA, ↓stL, ↓bin, ↓binD, ↓binL, ↓binDL, ↓una, ↓acV, ↓acK, ↓acpy, ↓inv, entL, nones, List.length_cons, List.length_nil, List.take, List.drop, List.reverse_cons, List.reverse_nil, List.nil_append, List.cons_append, Option.toList_some, Option.toList_none, Nat.reduceAdd, Nat.reduceSub, Nat.reduceLT, Nat.reduceEqDiff, Fin.isValue, aTL, aSZ, Int.toNat_natCast, hset_same, hset_o, hset_s, hset_row, ne_eq, Nat.reduceBEq, beq_self_eq_true, Fin.val_zero, Fin.val_one, fin0, fin1, fin2, fin3, Nat.le_refl, Nat.reduceLeDiff, Nat.zero_le, Int.reduceAdd, Int.reduceNeg, Int.reduceLE, Int.reduceLT, Int.reduceToNat, Int.reduceMul, Int.cast_ofNat_Int, Nat.reduceMod, ↓reduceIte, if_true, if_false, and_true, true_and, or_true, true_or, false_or, or_false, and_self, not_true_eq_false, not_false_eq_true, Bool.false_eq_true, reduceCtorEq, false_implies, true_implies, implies_true, and_false, false_and, dX8_readsChord_0, dX8_readsChord_1, dX8_readsChord_4, dX8_readsChord_7, dX8_readsChord_8, dX8_readsChord_9, dX8_readsChord_10, dX8_readsChord_13, dX8_readsChord_14, dX8_readsChord_17, dX8_readsChord_18, dX8_readsChord_21, dX8_readsChord_22, dX8_readsChord_25, dX8_readsChord_26, dX8_readsChord_27, dX8_readsChord_30, dX8_readsChord_31, dX8_readsChord_32, dX8_readsChord_35, dX8_readsChord_38, dX8_readsChord_39, dX8_readsChord_42, dX8_readsChord_43, dX8_readsChord_44, dX8_readsChord_46, dX8_readsChord_49, dX8_readsChord_50, dX8_readsChord_51, dX8_readsChord_54, dX8_readsChord_55, dX8_readsChord_56, dX8_readsChord_59, dX8_readsChord_60, dX8_readsChord_61, dX8_readsChord_64, dX8_readsChord_65, dX8_readsChord_67, dX8_readsChord_68, dX8_readsChord_70, dX8_readsChord_71, dX8_readsChord_74, dX8_readsChord_76, dX8_readsChord_78, dX8_readsChord_81, dX8_readsChord_82, dX8_readsChord_84, dX8_readsChord_85, dX8_readsChord_86, dX8_readsChord_88, dX8_readsChord_91, dX8_readsChord_93, dX8_readsChord_94, dX8_readsChord_97, dX8_readsChord_100, dX8_readsChord_101, dX8_readsChord_104, dX8_readsChord_106, dX8_readsChord_107, dX8_readsChord_110, dX8_readsChord_111, dX8_readsChord_112, dX8_readsChord_113, dX8_readsChord_115, dX8_readsChord_116, dX8_readsChord_118, dX8_readsChord_119, dX8_readsChord_122, dX8_readsChord_123, dX8_readsChord_126, dX8_readsChord_129, dX8_readsChord_130, dX8_readsChord_133, dX8_readsChord_134, dX8_readsChord_137, dX8_readsChord_139, dX8_readsChord_140, dX8_readsChord_143, dX8_readsChord_144, dX8_readsChord_147, dX8_readsChord_148, dX8_readsChord_150, dX8_readsChord_152, dX8_readsChord_155, dX8_readsChord_156, dX8_readsChord_157, dX8_readsChord_158, dX8_readsChord_161, dX8_readsChord_162, dX8_readsChord_165, dX8_readsChord_166, dX8_readsChord_167, dX8_readsChord_170, dX8_readsChord_171, dX8_readsChord_174, dX8_readsChord_175, dX8_readsChord_178, dX8_readsChord_179, dX8_readsChord_180, dX8_readsChord_183, dX8_readsChord_184, dX8_readsChord_185, dX8_readsChord_188, dX8_readsChord_191, dX8_readsChord_192, dX8_readsChord_193, dX8_readsChord_194, dX8_readsChord_197, dX8_readsChord_198, dX8_readsChord_199, dX8_readsChord_200, dX8_readsChord_201, dX8_readsChord_203, dX8_readsChord_204, dX8_readsChord_207, dX8_readsChord_209, dX8_readsChord_210, dX8_readsChord_211, dX8_readsChord_212, dX8_readsChord_215, dX8_readsChord_217, dX8_readsChord_218, dX8_readsChord_219, dX8_readsChord_220, dX8_readsChord_223, dX8_readsChord_224, dX8_readsChord_225, dX8_readsChord_226, dX8_readsChord_227, dX8_readsChord_230, dX8_readsChord_232, dX8_readsChord_233, dX8_readsChord_234, dX8_readsChord_236, dX8_readsChord_237, dX8_readsChord_238, dX8_readsChord_241, dX8_readsChord_243, dX8_readsChord_244, dX8_readsChord_245, dX8_readsChord_246, dX8_readsChord_249, dX8_readsChord_250, dX8_readsChord_253, dX8_readsChord_254, dX8_readsChord_255, dX8_readsChord_256, dX8_readsChord_259, dX8_readsChord_261, dX8_readsChord_262, dX8_readsChord_263, dX8_readsChord_264, dX8_readsChord_267, dX8_readsChord_268, dX8_readsChord_271, dX8_readsChord_272, dX8_readsChord_273, dX8_readsChord_274, dX8_readsChord_277, dX8_readsChord_278, dX8_readsChord_279, dX8_readsChord_280, dX8_readsChord_281, dX8_readsChord_282, dX8_readsChord_283, dX8_readsChord_284, dX8_readsChord_287, dX8_readsChord_288, dX8_readsChord_289, dX8_readsChord_290, dX8_readsChord_292, dX8_readsChord_293, dX8_readsChord_294, cpX8, mT_X8_readsChord, SHl_58, SHl_59, SHl_60, SHl_61, SHl_62, SHl_63, SHl_64, SHl_65, SHl_66, SHl_67, SHl_68, SHl_69, SHl_70, SHl_71, SHl_72, SHl_73, SHl_74, SHl_75, S_X8_figure, S_X8_isWell, S_X8_kindOf, S_X8_takes]
      rw [if_neg (by omega)]
      exact ⟨h8', ⟨by decide, by decide⟩, fun _ => ⟨h8', this⟩, fun z => absurd rfl z⟩
    have hkb := kdZ_b (σ 58 12)
    refine hK (fun q => q == 31) 40 _ _ _ _ ?_
    simp only [↓wp, ↓stp, ilen, lnth, st1, st2, nolong, nohead, rnth, ↓gfX, ↓pfX, gfV, pfV, cpF, cpP, cndZ, ↓tgo, ↓tsw, ↓lsw, ↓ldI, ↓ldA, ↓ldL, ↓stI, ↓stA, ↓stL, ↓bin, ↓binD, ↓binL, ↓binDL, ↓una, ↓acV, ↓acK, ↓acpy, ↓inv, entL, nones, List.length_cons, List.length_nil, List.take, List.drop, List.reverse_cons, List.reverse_nil, List.nil_append, List.cons_append, Option.toList_some, Option.toList_none, Nat.reduceAdd, Nat.reduceSub, Nat.reduceLT, Nat.reduceEqDiff, Fin.isValue, aTL, aSZ, Int.toNat_natCast, hset_same, hset_o, hset_s, hset_row, ne_eq, Nat.reduceBEq, beq_self_eq_true, Fin.val_zero, Fin.val_one, fin0, fin1, fin2, fin3, Nat.le_refl, Nat.reduceLeDiff, Nat.zero_le, Int.reduceAdd, Int.reduceNeg, Int.reduceLE, Int.reduceLT, Int.reduceToNat, Int.reduceMul, Int.cast_ofNat_Int, Nat.reduceMod, ↓reduceIte, if_true, if_false, and_true, true_and, or_true, true_or, false_or, or_false, and_self, not_true_eq_false, not_false_eq_true, Bool.false_eq_true, reduceCtorEq, false_implies, true_implies, implies_true, and_false, false_and, dX8_readsChord_0, dX8_readsChord_1, dX8_readsChord_4, dX8_readsChord_7, dX8_readsChord_8, dX8_readsChord_9, dX8_readsChord_10, dX8_readsChord_13, dX8_readsChord_14, dX8_readsChord_17, dX8_readsChord_18, dX8_readsChord_21, dX8_readsChord_22, dX8_readsChord_25, dX8_readsChord_26, dX8_readsChord_27, dX8_readsChord_30, dX8_readsChord_31, dX8_readsChord_32, dX8_readsChord_35, dX8_readsChord_38, dX8_readsChord_39, dX8_readsChord_42, dX8_readsChord_43, dX8_readsChord_44, dX8_readsChord_46, dX8_readsChord_49, dX8_readsChord_50, dX8_readsChord_51, dX8_readsChord_54, dX8_readsChord_55, dX8_readsChord_56, dX8_readsChord_59, dX8_readsChord_60, dX8_readsChord_61, dX8_readsChord_64, dX8_readsChord_65, dX8_readsChord_67, dX8_readsChord_68, dX8_readsChord_70, dX8_readsChord_71, dX8_readsChord_74, dX8_readsChord_76, dX8_readsChord_78, dX8_readsChord_81, dX8_readsChord_82, dX8_readsChord_84, dX8_readsChord_85, dX8_readsChord_86, dX8_readsChord_88, dX8_readsChord_91, dX8_readsChord_93, dX8_readsChord_94, dX8_readsChord_97, dX8_readsChord_100, dX8_readsChord_101, dX8_readsChord_104, dX8_readsChord_106, dX8_readsChord_107, dX8_readsChord_110, dX8_readsChord_111, dX8_readsChord_112, dX8_readsChord_113, dX8_readsChord_115, dX8_readsChord_116, dX8_readsChord_118, dX8_readsChord_119, dX8_readsChord_122, dX8_readsChord_123, dX8_readsChord_126, dX8_readsChord_129, dX8_readsChord_130, dX8_readsChord_133, dX8_readsChord_134, dX8_readsChord_137, dX8_readsChord_139, dX8_readsChord_140, dX8_readsChord_143, dX8_readsChord_144, dX8_readsChord_147, dX8_readsChord_148, dX8_readsChord_150, dX8_readsChord_152, dX8_readsChord_155, dX8_readsChord_156, dX8_readsChord_157, dX8_readsChord_158, dX8_readsChord_161, dX8_readsChord_162, dX8_readsChord_165, dX8_readsChord_166, dX8_readsChord_167, dX8_readsChord_170, dX8_readsChord_171, dX8_readsChord_174, dX8_readsChord_175, dX8_readsChord_178, dX8_readsChord_179, dX8_readsChord_180, dX8_readsChord_183, dX8_readsChord_184, dX8_readsChord_185, dX8_readsChord_188, dX8_readsChord_191, dX8_readsChord_192, dX8_readsChord_193, dX8_readsChord_194, dX8_readsChord_197, dX8_readsChord_198, dX8_readsChord_199, dX8_readsChord_200, dX8_readsChord_201, dX8_readsChord_203, dX8_readsChord_204, dX8_readsChord_207, dX8_readsChord_209, dX8_readsChord_210, dX8_readsChord_211, dX8_readsChord_212, dX8_readsChord_215, dX8_readsChord_217, dX8_readsChord_218, dX8_readsChord_219, dX8_readsChord_220, dX8_readsChord_223, dX8_readsChord_224, dX8_readsChord_225, dX8_readsChord_226, dX8_readsChord_227, dX8_readsChord_230, dX8_readsChord_232, dX8_readsChord_233, dX8_readsChord_234, dX8_readsChord_236, dX8_readsChord_237, dX8_readsChord_238, dX8_readsChord_241, dX8_readsChord_243, dX8_readsChord_244, dX8_readsChord_245, dX8_readsChord_246, dX8_readsChord_249, dX8_readsChord_250, dX8_readsChord_253, dX8_readsChord_254, dX8_readsChord_255, dX8_readsChord_256, dX8_readsChord_259, dX8_readsChord_261, dX8_readsChord_262, dX8_readsChord_263, dX8_readsChord_264, dX8_readsChord_267, dX8_readsChord_268, dX8_readsChord_271, dX8_readsChord_272, dX8_readsChord_273, dX8_readsChord_274, dX8_readsChord_277, dX8_readsChord_278, dX8_readsChord_279, dX8_readsChord_280, dX8_readsChord_281, dX8_readsChord_282, dX8_readsChord_283, dX8_readsChord_284, dX8_readsChord_287, dX8_readsChord_288, dX8_readsChord_289, dX8_readsChord_290, dX8_readsChord_292, dX8_readsChord_293, dX8_readsChord_294, cpX8, mT_X8_readsChord, SHl_58, SHl_59, SHl_60, SHl_61, SHl_62, SHl_63, SHl_64, SHl_65, SHl_66, SHl_67, SHl_68, SHl_69, SHl_70, SHl_71, SHl_72, SHl_73, SHl_74, SHl_75, S_X8_figure, S_X8_isWell, S_X8_kindOf, S_X8_takes]
    simp only [if_pos h8]
    (repeat' (first | exact a31 _ | exact hT | exact hr11 | exact hr12 | apply And.intro | intro _)) <;> first | omega | (exact Or.inl rfl) | (exact Or.inr rfl) | (simp; done)
  rw [if_neg h8] at hq
  obtain ⟨p, hl, hV, hn4, h00, q1, q2⟩ := hq
  obtain ⟨D, hD⟩ : ∃ D, D = vM σ 65 0 := ⟨_, rfl⟩
  rw [← hD] at hV hn4 h00 q1 q2
  obtain ⟨v0, v1, v2⟩ := vM_0 σ 65
  rw [← hD] at v0 v1 v2
  obtain ⟨o1, o2, o3, o4, oc, on⟩ := id hV
  obtain ⟨C, hC⟩ : ∃ C : Nat, D 0 1 = C := ⟨(D 0 1).toNat, by omega⟩
  obtain ⟨N, hN⟩ : ∃ N : Nat, D 0 2 = N := ⟨(D 0 2).toNat, by omega⟩
  have s1 : σ 65 1 = C := v1.symm.trans hC
  have s2 : σ 65 2 = N := v2.symm.trans hN
  have hkb := kdZ_b (tkT B L p)
  obtain ⟨kd, hkd⟩ : ∃ kd, kd = kdZ (tkT B L p) := ⟨_, rfl⟩
  rw [← hkd] at hkb
  have hrun : ¬ kd = 0 → C < 10 → runS (RN B L) B L p b f D = RN B L (p + tkW B L p) 4 0 0 (-1) (adC D kd b f) := fun z1 z2 => by
    unfold runS
    rw [← hkd, if_neg z1, if_neg (by omega)]
  -- at a chord's end
  have w184 : ∀ (τ : HP) (j : Nat) (p' : Nat) (la mo lk : Int) (g : Nat → Int), ¬ kd = 0 → C < 10 → 1 ≤ j → j ≤ 4 → (∀ i, i < j → 0 ≤ g i ∧ g i < 12) → adY σ τ → (∀ c, c < 53 + N → τ 65 c = σ 65 c) → (∀ i, i < j → τ 65 (53 + N + i) = g i) → p < p' → ldP B L τ p' → τ 58 8 = σ 58 8 → τ 58 7 = σ 58 7 → runS (RN B L) B L p b f D = RN B L p' 6 0 0 lk (opD D kd b f g j) → K 184 [some (.inr (.inl 58)), some (.inl b), some (.inl f), some (.inl kd), some (.inl (j : Int)), some (.inl la), some (.inl mo), none] [] τ := by
    intro τ j p' la mo lk g hk0 hC10 hj1 hj4 hg had o gg hpp hlp h8 h7 hR
    have u1 : τ 65 1 = C := (o 1 (by omega)).trans s1
    have u2 : τ 65 2 = N := (o 2 (by omega)).trans s2
    have hok := opD_ok hV (by omega) (by omega) hb hf h00 ⟨hj1, hj4⟩ hg hn4
    have fin : ∀ b' f' : Int, b' = b → f' = f → Q none (hset (hset (hset (hset (hset (hset (hset τ 65 (5 * C + 3) kd) 65 (5 * C + 4) N) 65 (5 * C + 5) j) 65 (5 * C + 6) b') 65 (5 * C + 7) f') 65 1 ((C : Int) + 1)) 65 2 ((N : Int) + j)) := by
      intro b' f' hb' hf'
      subst hb'
      subst hf'
      refine q2 _ p' lk _ hpp hR (adY_set (adY_set (adY_set (adY_set (adY_set (adY_set (adY_set had))))))) ?_ ?_ ?_ ?_ hok.1 hok.2 (by show 1 ≤ D 0 1 + 1; omega)
      · rw [hset_o (by decide), hset_o (by decide), hset_o (by decide), hset_o (by decide), hset_o (by decide), hset_o (by decide), hset_o (by decide), h8]
      · rw [hset_o (by decide), hset_o (by decide), hset_o (by decide), hset_o (by decide), hset_o (by decide), hset_o (by decide), hset_o (by decide), h7]
      · exact ldP_set (ldP_set (ldP_set (ldP_set (ldP_set (ldP_set (ldP_set hlp))))))
      · rw [hD]
        exact vM_op s1 s2 hC10 (by omega) o gg rfl
    have n1 : (1 = 5 * C + 3) = False := by simp; try omega
    have n2 : (2 = 5 * C + 3) = False := by simp; try omega
    have n3 : (1 = 5 * C + 4) = False := by simp; try omega
    have n4 : (2 = 5 * C + 4) = False := by simp; try omega
    have n5 : (1 = 5 * C + 5) = False := by simp; try omega
    have n6 : (2 = 5 * C + 5) = False := by simp; try omega
    have n7 : (1 = 5 * C + 6) = False := by simp; try omega
    have n8 : (2 = 5 * C + 6) = False := by simp; try omega
    have n9 : (1 = 5 * C + 7) = False := by simp; try omega
    have n0 : (2 = 5 * C + 7) = False := by simp; try omega
    refine hK (fun _ => false) 100 _ _ _ _ ?_
    simp only [↓wp, ↓stp, ilen, lnth, st1, st2, nolong, nohead, rnth, ↓gfX, ↓pfX, gfV, pfV, cpF, cpP, cndZ, ↓tgo, ↓tsw, ↓lsw, ↓ldI, ↓ldA, ↓ldL, ↓stI, ↓stA, ↓stL, ↓bin, ↓binD, ↓binL, ↓binDL, ↓una, ↓acV, ↓acK, ↓acpy, ↓inv, entL, nones, List.length_cons, List.length_nil, List.take, List.drop, List.reverse_cons, List.reverse_nil, List.nil_append, List.cons_append, Option.toList_some, Option.toList_none, Nat.reduceAdd, Nat.reduceSub, Nat.reduceLT, Nat.reduceEqDiff, Fin.isValue, aTL, aSZ, Int.toNat_natCast, hset_same, hset_o, hset_s, hset_row, ne_eq, Nat.reduceBEq, beq_self_eq_true, Fin.val_zero, Fin.val_one, fin0, fin1, fin2, fin3, Nat.le_refl, Nat.reduceLeDiff, Nat.zero_le, Int.reduceAdd, Int.reduceNeg, Int.reduceLE, Int.reduceLT, Int.reduceToNat, Int.reduceMul, Int.cast_ofNat_Int, Nat.reduceMod, ↓reduceIte, if_true, if_false, and_true, true_and, or_true, true_or, false_or, or_false, and_self, not_true_eq_false, not_false_eq_true, Bool.false_eq_true, reduceCtorEq, false_implies, true_implies, implies_true, and_false, false_and, dX8_readsChord_0, dX8_readsChord_1, dX8_readsChord_4, dX8_readsChord_7, dX8_readsChord_8, dX8_readsChord_9, dX8_readsChord_10, dX8_readsChord_13, dX8_readsChord_14, dX8_readsChord_17, dX8_readsChord_18, dX8_readsChord_21, dX8_readsChord_22, dX8_readsChord_25, dX8_readsChord_26, dX8_readsChord_27, dX8_readsChord_30, dX8_readsChord_31, dX8_readsChord_32, dX8_readsChord_35, dX8_readsChord_38, dX8_readsChord_39, dX8_readsChord_42, dX8_readsChord_43, dX8_readsChord_44, dX8_readsChord_46, dX8_readsChord_49, dX8_readsChord_50, dX8_readsChord_51, dX8_readsChord_54, dX8_readsChord_55, dX8_readsChord_56, dX8_readsChord_59, dX8_readsChord_60, dX8_readsChord_61, dX8_readsChord_64, dX8_readsChord_65, dX8_readsChord_67, dX8_readsChord_68, dX8_readsChord_70, dX8_readsChord_71, dX8_readsChord_74, dX8_readsChord_76, dX8_readsChord_78, dX8_readsChord_81, dX8_readsChord_82, dX8_readsChord_84, dX8_readsChord_85, dX8_readsChord_86, dX8_readsChord_88, dX8_readsChord_91, dX8_readsChord_93, dX8_readsChord_94, dX8_readsChord_97, dX8_readsChord_100, dX8_readsChord_101, dX8_readsChord_104, dX8_readsChord_106, dX8_readsChord_107, dX8_readsChord_110, dX8_readsChord_111, dX8_readsChord_112, dX8_readsChord_113, dX8_readsChord_115, dX8_readsChord_116, dX8_readsChord_118, dX8_readsChord_119, dX8_readsChord_122, dX8_readsChord_123, dX8_readsChord_126, dX8_readsChord_129, dX8_readsChord_130, dX8_readsChord_133, dX8_readsChord_134, dX8_readsChord_137, dX8_readsChord_139, dX8_readsChord_140, dX8_readsChord_143, dX8_readsChord_144, dX8_readsChord_147, dX8_readsChord_148, dX8_readsChord_150, dX8_readsChord_152, dX8_readsChord_155, dX8_readsChord_156, dX8_readsChord_157, dX8_readsChord_158, dX8_readsChord_161, dX8_readsChord_162, dX8_readsChord_165, dX8_readsChord_166, dX8_readsChord_167, dX8_readsChord_170, dX8_readsChord_171, dX8_readsChord_174, dX8_readsChord_175, dX8_readsChord_178, dX8_readsChord_179, dX8_readsChord_180, dX8_readsChord_183, dX8_readsChord_184, dX8_readsChord_185, dX8_readsChord_188, dX8_readsChord_191, dX8_readsChord_192, dX8_readsChord_193, dX8_readsChord_194, dX8_readsChord_197, dX8_readsChord_198, dX8_readsChord_199, dX8_readsChord_200, dX8_readsChord_201, dX8_readsChord_203, dX8_readsChord_204, dX8_readsChord_207, dX8_readsChord_209, dX8_readsChord_210, dX8_readsChord_211, dX8_readsChord_212, dX8_readsChord_215, dX8_readsChord_217, dX8_readsChord_218, dX8_readsChord_219, dX8_readsChord_220, dX8_readsChord_223, dX8_readsChord_224, dX8_readsChord_225, dX8_readsChord_226, dX8_readsChord_227, dX8_readsChord_230, dX8_readsChord_232, dX8_readsChord_233, dX8_readsChord_234, dX8_readsChord_236, dX8_readsChord_237, dX8_readsChord_238, dX8_readsChord_241, dX8_readsChord_243, dX8_readsChord_244, dX8_readsChord_245, dX8_readsChord_246, dX8_readsChord_249, dX8_readsChord_250, dX8_readsChord_253, dX8_readsChord_254, dX8_readsChord_255, dX8_readsChord_256, dX8_readsChord_259, dX8_readsChord_261, dX8_readsChord_262, dX8_readsChord_263, dX8_readsChord_264, dX8_readsChord_267, dX8_readsChord_268, dX8_readsChord_271, dX8_readsChord_272, dX8_readsChord_273, dX8_readsChord_274, dX8_readsChord_277, dX8_readsChord_278, dX8_readsChord_279, dX8_readsChord_280, dX8_readsChord_281, dX8_readsChord_282, dX8_readsChord_283, dX8_readsChord_284, dX8_readsChord_287, dX8_readsChord_288, dX8_readsChord_289, dX8_readsChord_290, dX8_readsChord_292, dX8_readsChord_293, dX8_readsChord_294, cpX8, mT_X8_readsChord, SHl_58, SHl_59, SHl_60, SHl_61, SHl_62, SHl_63, SHl_64, SHl_65, SHl_66, SHl_67, SHl_68, SHl_69, SHl_70, SHl_71, SHl_72, SHl_73, SHl_74, SHl_75, S_X8_figure, S_X8_isWell, S_X8_kindOf, S_X8_takes, u1, u2, ix0, ix1, ix2, ix3, ix4, n1, n2, n3, n4, n5, n6, n7, n8, n9, n0]
    rw [if_pos (by omega)]
    rcases hb with hb | hb <;> rcases hf with hf | hf <;> (repeat' (first | exact fin _ _ hb.symm hf.symm | apply And.intro | intro _)) <;> first | omega | (simp_all; done)
  -- behind the keys
  have w165 : ∀ (τ : HP) (j : Nat) (p' : Nat) (la : Int) (g : Nat → Int), ¬ kd = 0 → C < 10 → 1 ≤ j → j ≤ 4 → (∀ i, i < j → 0 ≤ g i ∧ g i < 12) → adY σ τ → (∀ c, c < 53 + N → τ 65 c = σ 65 c) → (∀ i, i < j → τ 65 (53 + N + i) = g i) → p < p' → ldP B L τ p' → τ 58 8 = σ 58 8 → τ 58 7 = σ 58 7 → ¬ (tkT B L p' = 44 ∧ j < 4) → runS (RN B L) B L p b f D = RN B L p' 5 0 0 la (opD D kd b f g j) → K 165 [some (.inr (.inl 58)), some (.inl b), some (.inl f), some (.inl kd), some (.inl (j : Int)), some (.inl la), some (.inl 0), none] [] τ := by
    intro τ j p' la g hk0 hC10 hj1 hj4 hg had o gg hpp hlp h8 h7 hn44 hR
    obtain ⟨l0, l10, l11, l3, lT, lb, l9⟩ := id hlp
    obtain ⟨k1, k2, k3, k4⟩ := adY_k had
    have hrt := k4 hT
    have hfb := rfT_b (tkT B L p')
    have hsz : szD (opD D kd b f g j) = j := szD_op (by omega)
    have hrb := hR.trans (RN_eq l0)
    have hrr : runB (RN B L) B L p' 5 0 0 la (opD D kd b f g j) = if tkT B L p' = 59 then RN B L (p' + tkW B L p') 6 0 0 la (opD D kd b f g j) else fltR 1 p' := by
      unfold runB
      by_cases hz : tkT B L p' = -1
      · rw [if_pos hz, if_neg (by decide), if_neg (by omega)]
      · rw [if_neg hz, if_neg (by decide), if_neg (by decide), if_neg (by decide), if_neg (by decide), if_neg (by decide), if_neg (by decide), if_pos rfl, hsz, if_neg (fun z => hn44 ⟨z.1, by omega⟩)]
    rw [hrr] at hrb
    refine hK (fun q => q == 184) 40 _ _ _ _ ?_
    simp only [↓wp, ↓stp, ilen, lnth, st1, st2, nolong, nohead, rnth, ↓gfX, ↓pfX, gfV, pfV, cpF, cpP, cndZ, ↓tgo, ↓tsw, ↓lsw, ↓ldI, ↓ldA, ↓ldL, ↓stI, ↓stA, ↓stL, ↓bin, ↓binD, ↓binL, ↓binDL, ↓una, ↓acV, ↓acK, ↓acpy, ↓inv, entL, nones, List.length_cons, List.length_nil, List.take, List.drop, List.reverse_cons, List.reverse_nil, List.nil_append, List.cons_append, Option.toList_some, Option.toList_none, Nat.reduceAdd, Nat.reduceSub, Nat.reduceLT, Nat.reduceEqDiff, Fin.isValue, aTL, aSZ, Int.toNat_natCast, hset_same, hset_o, hset_s, hset_row, ne_eq, Nat.reduceBEq, beq_self_eq_true, Fin.val_zero, Fin.val_one, fin0, fin1, fin2, fin3, Nat.le_refl, Nat.reduceLeDiff, Nat.zero_le, Int.reduceAdd, Int.reduceNeg, Int.reduceLE, Int.reduceLT, Int.reduceToNat, Int.reduceMul, Int.cast_ofNat_Int, Nat.reduceMod, ↓reduceIte, if_true, if_false, and_true, true_and, or_true, true_or, false_or, or_false, and_self, not_true_eq_false, not_false_eq_true, Bool.false_eq_true, reduceCtorEq, false_implies, true_implies, implies_true, and_false, false_and, dX8_readsChord_0, dX8_readsChord_1, dX8_readsChord_4, dX8_readsChord_7, dX8_readsChord_8, dX8_readsChord_9, dX8_readsChord_10, dX8_readsChord_13, dX8_readsChord_14, dX8_readsChord_17, dX8_readsChord_18, dX8_readsChord_21, dX8_readsChord_22, dX8_readsChord_25, dX8_readsChord_26, dX8_readsChord_27, dX8_readsChord_30, dX8_readsChord_31, dX8_readsChord_32, dX8_readsChord_35, dX8_readsChord_38, dX8_readsChord_39, dX8_readsChord_42, dX8_readsChord_43, dX8_readsChord_44, dX8_readsChord_46, dX8_readsChord_49, dX8_readsChord_50, dX8_readsChord_51, dX8_readsChord_54, dX8_readsChord_55, dX8_readsChord_56, dX8_readsChord_59, dX8_readsChord_60, dX8_readsChord_61, dX8_readsChord_64, dX8_readsChord_65, dX8_readsChord_67, dX8_readsChord_68, dX8_readsChord_70, dX8_readsChord_71, dX8_readsChord_74, dX8_readsChord_76, dX8_readsChord_78, dX8_readsChord_81, dX8_readsChord_82, dX8_readsChord_84, dX8_readsChord_85, dX8_readsChord_86, dX8_readsChord_88, dX8_readsChord_91, dX8_readsChord_93, dX8_readsChord_94, dX8_readsChord_97, dX8_readsChord_100, dX8_readsChord_101, dX8_readsChord_104, dX8_readsChord_106, dX8_readsChord_107, dX8_readsChord_110, dX8_readsChord_111, dX8_readsChord_112, dX8_readsChord_113, dX8_readsChord_115, dX8_readsChord_116, dX8_readsChord_118, dX8_readsChord_119, dX8_readsChord_122, dX8_readsChord_123, dX8_readsChord_126, dX8_readsChord_129, dX8_readsChord_130, dX8_readsChord_133, dX8_readsChord_134, dX8_readsChord_137, dX8_readsChord_139, dX8_readsChord_140, dX8_readsChord_143, dX8_readsChord_144, dX8_readsChord_147, dX8_readsChord_148, dX8_readsChord_150, dX8_readsChord_152, dX8_readsChord_155, dX8_readsChord_156, dX8_readsChord_157, dX8_readsChord_158, dX8_readsChord_161, dX8_readsChord_162, dX8_readsChord_165, dX8_readsChord_166, dX8_readsChord_167, dX8_readsChord_170, dX8_readsChord_171, dX8_readsChord_174, dX8_readsChord_175, dX8_readsChord_178, dX8_readsChord_179, dX8_readsChord_180, dX8_readsChord_183, dX8_readsChord_184, dX8_readsChord_185, dX8_readsChord_188, dX8_readsChord_191, dX8_readsChord_192, dX8_readsChord_193, dX8_readsChord_194, dX8_readsChord_197, dX8_readsChord_198, dX8_readsChord_199, dX8_readsChord_200, dX8_readsChord_201, dX8_readsChord_203, dX8_readsChord_204, dX8_readsChord_207, dX8_readsChord_209, dX8_readsChord_210, dX8_readsChord_211, dX8_readsChord_212, dX8_readsChord_215, dX8_readsChord_217, dX8_readsChord_218, dX8_readsChord_219, dX8_readsChord_220, dX8_readsChord_223, dX8_readsChord_224, dX8_readsChord_225, dX8_readsChord_226, dX8_readsChord_227, dX8_readsChord_230, dX8_readsChord_232, dX8_readsChord_233, dX8_readsChord_234, dX8_readsChord_236, dX8_readsChord_237, dX8_readsChord_238, dX8_readsChord_241, dX8_readsChord_243, dX8_readsChord_244, dX8_readsChord_245, dX8_readsChord_246, dX8_readsChord_249, dX8_readsChord_250, dX8_readsChord_253, dX8_readsChord_254, dX8_readsChord_255, dX8_readsChord_256, dX8_readsChord_259, dX8_readsChord_261, dX8_readsChord_262, dX8_readsChord_263, dX8_readsChord_264, dX8_readsChord_267, dX8_readsChord_268, dX8_readsChord_271, dX8_readsChord_272, dX8_readsChord_273, dX8_readsChord_274, dX8_readsChord_277, dX8_readsChord_278, dX8_readsChord_279, dX8_readsChord_280, dX8_readsChord_281, dX8_readsChord_282, dX8_readsChord_283, dX8_readsChord_284, dX8_readsChord_287, dX8_readsChord_288, dX8_readsChord_289, dX8_readsChord_290, dX8_readsChord_292, dX8_readsChord_293, dX8_readsChord_294, cpX8, mT_X8_readsChord, SHl_58, SHl_59, SHl_60, SHl_61, SHl_62, SHl_63, SHl_64, SHl_65, SHl_66, SHl_67, SHl_68, SHl_69, SHl_70, SHl_71, SHl_72, SHl_73, SHl_74, SHl_75, S_X8_figure, S_X8_isWell, S_X8_kindOf, S_X8_takes]
    rw [if_neg (show ¬ 0 ≤ τ 58 8 by omega), if_neg (show ¬ 0 ≤ τ 58 8 by omega), l11]
    refine ⟨⟨by omega, by omega⟩, ⟨by decide, by decide⟩, fun z => ⟨hrt, ⟨by omega, by omega⟩, Or.inl rfl, ?_⟩, fun z => ⟨hrt, ⟨by omega, by omega⟩, Or.inr rfl, ?_⟩⟩
    · rw [rfT_4] at z
      rw [if_neg z] at hrb
      rw [if_pos rfl]
      refine f184 _ _ _ _ _ ?_ ?_
      · rw [hset_s (by decide), hset_same, l10]
        omega
      · refine q1 _ 1 p' (by omega) l0 hrb (adY_flt had) ?_ hset_same
        rw [hset_s (by decide), hset_same, l10]
    · have z : tkT B L p' = 59 := by
        by_cases z' : rfT (tkT B L p') = 4
        · exact rfT_4.mp z'
        · exact absurd z' z
      rw [if_pos z] at hrb
      have hW := tkW_le (B := B) (L := L) (p := p') (by omega)
      have e9 := l9 (by omega) (by omega)
      rw [if_neg (by decide), e9, k3, k1, k2, ← hB, ← hL, Int.toNat_natCast]
      refine ⟨by omega, fun τ' g1 g2 => ?_⟩
      obtain ⟨m1, m2, m3, m4, m5⟩ := adP_k g1
      have e65 : τ' 65 = τ 65 := g1.1 65 (by decide)
      exact w184 τ' j (p' + tkW B L p') la 0 la g hk0 hC10 hj1 hj4 hg (adY_p had g1) (fun c hc => by rw [e65]; exact o c hc) (fun i hi => by rw [e65]; exact gg i hi) (by omega) g2 (m3.trans h8) (m4.trans h7) hrb
  -- the keys
  have loop : ∀ (n j : Nat) (τ : HP) (p' : Nat) (la : Int) (g : Nat → Int), j + n = 4 → 1 ≤ n → ¬ kd = 0 → C < 10 → (∀ i, i < j → 0 ≤ g i ∧ g i < 12) → adY σ τ → (∀ c, c < 53 + N → τ 65 c = σ 65 c) → (∀ i, i < j → τ 65 (53 + N + i) = g i) → p < p' → ldP B L τ p' → τ 58 8 = σ 58 8 → τ 58 7 = σ 58 7 → (-1 ≤ la ∧ la < 12) → runS (RN B L) B L p b f D = RN B L p' 4 0 0 la (opD D kd b f g j) → K 76 [some (.inr (.inl 58)), some (.inl b), some (.inl f), some (.inl kd), some (.inl (j : Int)), some (.inl la), some (.inl 1), none] [] τ := by
    intro n
    induction n with
    | zero => intro j τ p' la g _ h; omega
    | succ n ih =>
      intro j τ p' la g hjn _ hk0 hC10 hg had o gg hpp hlp h8 h7 hla hR
      obtain ⟨l0, l10, l11, l3, lT, lb, l9⟩ := id hlp
      obtain ⟨k1, k2, k3, k4⟩ := adY_k had
      have hrt := k4 hT
      have hfb := rfT_b (tkT B L p')
      have hrb := hR.trans (RN_eq l0)
      have hrr : runB (RN B L) B L p' 4 0 0 la (opD D kd b f g j) = if tkT B L p' = -3 then (if (0 ≤ tkV B L p' ∧ tkV B L p' < 12) ∧ la < tkV B L p' then RN B L (p' + tkW B L p') 5 0 0 (tkV B L p') (adK (opD D kd b f g j) (tkV B L p')) else fltR 2 p') else fltR 1 p' := by
        unfold runB
        by_cases hz : tkT B L p' = -1
        · rw [if_pos hz, if_neg (by decide), if_neg (by omega)]
        · rw [if_neg hz, if_neg (by decide), if_neg (by decide), if_neg (by decide), if_neg (by decide), if_neg (by decide), if_pos rfl]
      rw [hrr, adK_op (by omega) (by omega)] at hrb
      have hbad : ∀ k : Int, (1 ≤ k ∧ k ≤ 3) → runS (RN B L) B L p b f D = fltR k p' → K 76 [some (.inr (.inl 58)), some (.inl b), some (.inl f), some (.inl kd), some (.inl (j : Int)), some (.inl 0), some (.inl 0), none] [] (hset (hset τ 58 8 (τ 58 10)) 58 7 k) := by
        intro k hk hR'
        refine g76 _ _ _ _ (f165 _ _ _ _ _ ?_ ?_ ?_ ?_)
        · exact (adY_k (adY_flt had)).2.2.2 hT
        · rw [hset_s (by decide), hset_same, l10]
          omega
        · rw [hset_s (by decide), hset_s (by decide), l11]
          exact ⟨by omega, by omega⟩
        · refine q1 _ k p' hk l0 hR' (adY_flt had) ?_ hset_same
          rw [hset_s (by decide), hset_same, l10]
      refine hK (fun q => q == 76) 100 _ _ _ _ ?_
      simp only [↓wp, ↓stp, ilen, lnth, st1, st2, nolong, nohead, rnth, ↓gfX, ↓pfX, gfV, pfV, cpF, cpP, cndZ, ↓tgo, ↓tsw, ↓lsw, ↓ldI, ↓ldA, ↓ldL, ↓stI, ↓stA, ↓stL, ↓bin, ↓binD, ↓binL, ↓binDL, ↓una, ↓acV, ↓acK, ↓acpy, ↓inv, entL, nones, List.length_cons, List.length_nil, List.take, List.drop, List.reverse_cons, List.reverse_nil, List.nil_append, List.cons_append, Option.toList_some, Option.toList_none, Nat.reduceAdd, Nat.reduceSub, Nat.reduceLT, Nat.reduceEqDiff, Fin.isValue, aTL, aSZ, Int.toNat_natCast, hset_same, hset_o, hset_s, hset_row, ne_eq, Nat.reduceBEq, beq_self_eq_true, Fin.val_zero, Fin.val_one, fin0, fin1, fin2, fin3, Nat.le_refl, Nat.reduceLeDiff, Nat.zero_le, Int.reduceAdd, Int.reduceNeg, Int.reduceLE, Int.reduceLT, Int.reduceToNat, Int.reduceMul, Int.cast_ofNat_Int, Nat.reduceMod, ↓reduceIte, if_true, if_false, and_true, true_and, or_true, true_or, false_or, or_false, and_self, not_true_eq_false, not_false_eq_true, Bool.false_eq_true, reduceCtorEq, false_implies, true_implies, implies_true, and_false, false_and, dX8_readsChord_0, dX8_readsChord_1, dX8_readsChord_4, dX8_readsChord_7, dX8_readsChord_8, dX8_readsChord_9, dX8_readsChord_10, dX8_readsChord_13, dX8_readsChord_14, dX8_readsChord_17, dX8_readsChord_18, dX8_readsChord_21, dX8_readsChord_22, dX8_readsChord_25, dX8_readsChord_26, dX8_readsChord_27, dX8_readsChord_30, dX8_readsChord_31, dX8_readsChord_32, dX8_readsChord_35, dX8_readsChord_38, dX8_readsChord_39, dX8_readsChord_42, dX8_readsChord_43, dX8_readsChord_44, dX8_readsChord_46, dX8_readsChord_49, dX8_readsChord_50, dX8_readsChord_51, dX8_readsChord_54, dX8_readsChord_55, dX8_readsChord_56, dX8_readsChord_59, dX8_readsChord_60, dX8_readsChord_61, dX8_readsChord_64, dX8_readsChord_65, dX8_readsChord_67, dX8_readsChord_68, dX8_readsChord_70, dX8_readsChord_71, dX8_readsChord_74, dX8_readsChord_76, dX8_readsChord_78, dX8_readsChord_81, dX8_readsChord_82, dX8_readsChord_84, dX8_readsChord_85, dX8_readsChord_86, dX8_readsChord_88, dX8_readsChord_91, dX8_readsChord_93, dX8_readsChord_94, dX8_readsChord_97, dX8_readsChord_100, dX8_readsChord_101, dX8_readsChord_104, dX8_readsChord_106, dX8_readsChord_107, dX8_readsChord_110, dX8_readsChord_111, dX8_readsChord_112, dX8_readsChord_113, dX8_readsChord_115, dX8_readsChord_116, dX8_readsChord_118, dX8_readsChord_119, dX8_readsChord_122, dX8_readsChord_123, dX8_readsChord_126, dX8_readsChord_129, dX8_readsChord_130, dX8_readsChord_133, dX8_readsChord_134, dX8_readsChord_137, dX8_readsChord_139, dX8_readsChord_140, dX8_readsChord_143, dX8_readsChord_144, dX8_readsChord_147, dX8_readsChord_148, dX8_readsChord_150, dX8_readsChord_152, dX8_readsChord_155, dX8_readsChord_156, dX8_readsChord_157, dX8_readsChord_158, dX8_readsChord_161, dX8_readsChord_162, dX8_readsChord_165, dX8_readsChord_166, dX8_readsChord_167, dX8_readsChord_170, dX8_readsChord_171, dX8_readsChord_174, dX8_readsChord_175, dX8_readsChord_178, dX8_readsChord_179, dX8_readsChord_180, dX8_readsChord_183, dX8_readsChord_184, dX8_readsChord_185, dX8_readsChord_188, dX8_readsChord_191, dX8_readsChord_192, dX8_readsChord_193, dX8_readsChord_194, dX8_readsChord_197, dX8_readsChord_198, dX8_readsChord_199, dX8_readsChord_200, dX8_readsChord_201, dX8_readsChord_203, dX8_readsChord_204, dX8_readsChord_207, dX8_readsChord_209, dX8_readsChord_210, dX8_readsChord_211, dX8_readsChord_212, dX8_readsChord_215, dX8_readsChord_217, dX8_readsChord_218, dX8_readsChord_219, dX8_readsChord_220, dX8_readsChord_223, dX8_readsChord_224, dX8_readsChord_225, dX8_readsChord_226, dX8_readsChord_227, dX8_readsChord_230, dX8_readsChord_232, dX8_readsChord_233, dX8_readsChord_234, dX8_readsChord_236, dX8_readsChord_237, dX8_readsChord_238, dX8_readsChord_241, dX8_readsChord_243, dX8_readsChord_244, dX8_readsChord_245, dX8_readsChord_246, dX8_readsChord_249, dX8_readsChord_250, dX8_readsChord_253, dX8_readsChord_254, dX8_readsChord_255, dX8_readsChord_256, dX8_readsChord_259, dX8_readsChord_261, dX8_readsChord_262, dX8_readsChord_263, dX8_readsChord_264, dX8_readsChord_267, dX8_readsChord_268, dX8_readsChord_271, dX8_readsChord_272, dX8_readsChord_273, dX8_readsChord_274, dX8_readsChord_277, dX8_readsChord_278, dX8_readsChord_279, dX8_readsChord_280, dX8_readsChord_281, dX8_readsChord_282, dX8_readsChord_283, dX8_readsChord_284, dX8_readsChord_287, dX8_readsChord_288, dX8_readsChord_289, dX8_readsChord_290, dX8_readsChord_292, dX8_readsChord_293, dX8_readsChord_294, cpX8, mT_X8_readsChord, SHl_58, SHl_59, SHl_60, SHl_61, SHl_62, SHl_63, SHl_64, SHl_65, SHl_66, SHl_67, SHl_68, SHl_69, SHl_70, SHl_71, SHl_72, SHl_73, SHl_74, SHl_75, S_X8_figure, S_X8_isWell, S_X8_kindOf, S_X8_takes]
      rw [if_neg (show ¬ 0 ≤ τ 58 8 by omega), l11, l10]
      rw [l10] at hbad
      refine ⟨⟨by decide, by decide⟩, fun z => absurd z (by decide), fun _ => ⟨hrt, ⟨by omega, by omega⟩, ⟨by omega, by omega⟩, ⟨by omega, by omega⟩, ⟨by omega, by omega⟩, ⟨by decide, by decide⟩, ?_⟩⟩
      by_cases hz3 : tkT B L p' = -3
      · rw [if_pos hz3] at hrb
        have hv := l3 hz3
        have hvb := tkT_3 hz3
        rw [if_neg (fun z => z (rfT_2.mpr hz3)), hv]
        by_cases hin : la + 1 ≤ tkV B L p' ∧ tkV B L p' ≤ 11
        · rw [if_pos ⟨⟨by omega, by omega⟩, by omega⟩] at hrb
          have hW := tkW_le (B := B) (L := L) (p := p') (by omega)
          have e9 := l9 (by omega) (by omega)
          rw [if_neg (fun z => z hin), e9, k3, k1, k2, ← hB, ← hL, Int.toNat_natCast]
          refine ⟨by omega, fun τ' g1 g2 => ?_⟩
          obtain ⟨m1, m2, m3, m4, m5⟩ := adP_k g1
          have e65 : τ' 65 = τ 65 := g1.1 65 (by decide)
          have u2 : τ' 65 2 = N := by rw [e65, o 2 (by omega), s2]
          obtain ⟨n0, n10, n11, n3, nT, nb, n9⟩ := id g2
          have hfb' := rfT_b (tkT B L (p' + tkW B L p'))
          generalize hv' : tkV B L p' = v at *
          generalize hp2 : p' + tkW B L p' = p2 at *
          have ix : (53 + (N : Int) + (j : Int)).toNat = 53 + N + j := by omega
          have hY : adY σ (hset τ' 65 (53 + N + j) v) := adY_set (adY_p had g1)
          have hO : ∀ c, c < 53 + N → hset τ' 65 (53 + N + j) v 65 c = σ 65 c := fun c hc => by rw [hset_s (by omega), e65]; exact o c hc
          have hG : ∀ i, i < j + 1 → hset τ' 65 (53 + N + j) v 65 (53 + N + i) = (fun i => if i = j then v else g i) i := fun i hi => by
            dsimp only
            by_cases hij : i = j
            · subst hij
              rw [hset_same, if_pos rfl]
            · rw [hset_s (by omega), if_neg hij, e65]
              exact gg i (by omega)
          have hGb : ∀ i, i < j + 1 → 0 ≤ (fun i => if i = j then v else g i) i ∧ (fun i => if i = j then v else g i) i < 12 := fun i hi => by
            dsimp only
            by_cases hij : i = j
            · rw [if_pos hij]; omega
            · rw [if_neg hij]; exact hg i (by omega)
          have hl2 : ldP B L (hset τ' 65 (53 + N + j) v) p2 := ldP_set g2
          have x8 : hset τ' 65 (53 + N + j) v 58 8 = σ 58 8 := by rw [hset_o (by decide), m3, h8]
          have x7 : hset τ' 65 (53 + N + j) v 58 7 = σ 58 7 := by rw [hset_o (by decide), m4, h7]
          have stop : ¬ (tkT B L p2 = 44 ∧ j + 1 < 4) → K 76 [some (.inr (.inl 58)), some (.inl b), some (.inl f), some (.inl kd), some (.inl ((j : Int) + 1)), some (.inl v), some (.inl 0), none] [] (hset τ' 65 (53 + N + j) v) := fun hn44 => by
            have := g76 _ _ _ _ (w165 (hset τ' 65 (53 + N + j) v) (j + 1) p2 v _ hk0 hC10 (by omega) (by omega) hGb hY hO hG (by omega) hl2 x8 x7 hn44 hrb)
            exact this
          have more : tkT B L p2 = 44 → j + 1 < 4 → ∀ τ'', adP (hset τ' 65 (53 + N + j) v) τ'' → ldP B L τ'' (p2 + tkW B L p2) → K 76 [some (.inr (.inl 58)), some (.inl b), some (.inl f), some (.inl kd), some (.inl ((j : Int) + 1)), some (.inl v), some (.inl 1), none] [] τ'' := fun h44 hj4 τ'' y1 y2 => by
            obtain ⟨w1, w2, w3, w4, w5⟩ := adP_k y1
            have e65' : τ'' 65 = hset τ' 65 (53 + N + j) v 65 := y1.1 65 (by decide)
            have hsz : szD (opD D kd b f (fun i => if i = j then v else g i) (j + 1)) = ((j + 1 : Nat) : Int) := szD_op (by omega)
            have hrn : RN B L p2 5 0 0 v (opD D kd b f (fun i => if i = j then v else g i) (j + 1)) = RN B L (p2 + tkW B L p2) 4 0 0 v (opD D kd b f (fun i => if i = j then v else g i) (j + 1)) := by
              rw [RN_eq n0]
              unfold runB
              rw [if_neg (by omega), if_neg (by decide), if_neg (by decide), if_neg (by decide), if_neg (by decide), if_neg (by decide), if_neg (by decide), if_pos rfl, hsz, if_pos ⟨h44, by show 0 < D 0 1 + 1; omega, by omega⟩]
            have := ih (j + 1) τ'' (p2 + tkW B L p2) v _ (by omega) (by omega) hk0 hC10 hGb (adY_p hY y1) (fun c hc => by rw [e65']; exact hO c hc) (fun i hi => by rw [e65']; exact hG i hi) (by omega) y2 (w3.trans x8) (w4.trans x7) (by omega) (hrb.trans hrn)
            exact this
          have hW2 := fun h44 : tkT B L p2 = 44 => tkW_le (B := B) (L := L) (p := p2) (by omega)
          have e92 := fun h44 : tkT B L p2 = 44 => n9 (by omega) (by omega)
          have hrt2 : rtk (hset τ' 65 (53 + N + j) v) := (adY_k hY).2.2.2 hT
          have m6 : τ' 58 6 = σ 58 6 := by rw [g1.2 6 (by omega), k3]
          have bL : rL (hset τ' 65 (53 + N + j) v) = L := by rw [(adY_k hY).2.1, hL]
          have bB : hset τ' 65 (53 + N + j) v 63 = B := by rw [(adY_k hY).1, hB]
          rw [m3, u2, ix, bL, n11, m6]
          rw [if_pos (show τ 58 8 < 0 by omega)]
          have t63 : τ' 63 = B := by rw [m1, k1, hB]
          have t63' : hset τ' 65 (53 + N + j) v 63 = B := bB
          refine ⟨⟨by omega, by omega⟩, ⟨by decide, by decide⟩, fun z => absurd z (by decide), fun _ => ⟨by omega, by omega, ⟨by omega, by omega⟩, ⟨by decide, by decide⟩, fun z => absurd z (by decide), fun _ => ⟨⟨by omega, by omega⟩, ⟨by decide, by decide⟩, fun z => ?_, fun z => ?_⟩⟩⟩
          · rw [rfT_3] at z
            exact ⟨⟨by decide, by decide⟩, fun _ => stop (fun y => z y.1), fun z => absurd rfl z⟩
          · have z : tkT B L p2 = 44 := by
              by_cases z' : rfT (tkT B L p2) = 3
              · exact rfT_3.mp z'
              · exact absurd z' z
            refine ⟨⟨by omega, by omega⟩, ⟨by decide, by decide⟩, fun y => ⟨⟨by decide, by decide⟩, fun _ => stop (fun u => by omega), fun z => absurd rfl z⟩, fun y => ⟨⟨by decide, by decide⟩, fun z => absurd z (by decide), fun _ => ⟨hrt2, ⟨by omega, by omega⟩, Or.inr rfl, ?_⟩⟩⟩
            rw [if_neg (show ¬ 0 ≤ τ 58 8 by omega), if_neg (by decide), e92 z, t63, Int.toNat_natCast]
            exact ⟨by have := hW2 z; omega, fun τ'' y1 y2 => more z (by omega) τ'' y1 y2⟩
        · rw [if_neg (fun z => hin ⟨by omega, by omega⟩)] at hrb
          rw [if_pos hin]
          have := hbad 2 (by omega) hrb
          rw [if_neg (by omega)]
          refine ⟨⟨by omega, by omega⟩, ⟨by decide, by decide⟩, fun _ => ⟨⟨by omega, by omega⟩, ⟨by decide, by decide⟩, fun _ => ⟨⟨by decide, by decide⟩, fun _ => this, fun z => absurd rfl z⟩, fun z => absurd rfl z⟩, fun z => absurd rfl z⟩
      · rw [if_neg hz3] at hrb
        rw [if_pos (fun z => hz3 (rfT_2.mp z))]
        have := hbad 1 (by omega) hrb
        rw [if_neg (by omega)]
        refine ⟨⟨by omega, by omega⟩, ⟨by decide, by decide⟩, fun _ => ⟨⟨by omega, by omega⟩, ⟨by decide, by decide⟩, fun _ => ⟨⟨by decide, by decide⟩, fun _ => this, fun z => absurd rfl z⟩, fun z => absurd rfl z⟩, fun z => absurd rfl z⟩
  -- the letter
  obtain ⟨l0, l10, l11, l3, lT, lb, l9⟩ := id hl
  have hfb := rfT_b (tkT B L p)
  have hs := tkT_set (B := B) (L := L) (p := p)
  have w31 : ∀ τ : HP, ¬ kd = 0 → adP σ τ → ldP B L τ (p + tkW B L p) → K 31 [some (.inr (.inl 58)), some (.inl b), some (.inl f), some (.inl kd), none, none, none, none] [] τ := by
    intro τ hk0 g1 g2
    obtain ⟨k1, k2, k3, k4, k5⟩ := adP_k g1
    have e65 : τ 65 = σ 65 := g1.1 65 (by decide)
    obtain ⟨n0, n10, n11, n3, nT, nb, n9⟩ := id g2
    have hfb' := rfT_b (tkT B L (p + tkW B L p))
    have hT' := kdZ_T (by rw [← hkd]; exact hk0)
    have hW1 : tkW B L p = 1 := by
      unfold tkW
      rw [if_neg (fun z => ?_)]
      have h := z.1
      have : tkT B L p = -2 ∨ tkT B L p = -3 := by
        unfold tkT
        rw [if_neg (by have := h.1; omega), if_pos h]
        split
        · exact Or.inl rfl
        · exact Or.inr rfl
      omega
    have hadY : adY σ τ := ⟨fun q hq => g1.1 q (fun z => hq (Or.inl z)), fun j hj => g1.2 j (by omega)⟩
    refine hK (fun q => q == 76) 40 _ _ _ _ ?_
    simp only [↓wp, ↓stp, ilen, lnth, st1, st2, nolong, nohead, rnth, ↓gfX, ↓pfX, gfV, pfV, cpF, cpP, cndZ, ↓tgo, ↓tsw, ↓lsw, ↓ldI, ↓ldA, ↓ldL, ↓stI, ↓stA, ↓stL, ↓bin, ↓binD, ↓binL, ↓binDL, ↓una, ↓acV, ↓acK, ↓acpy, ↓inv, entL, nones, List.length_cons, List.length_nil, List.take, List.drop, List.reverse_cons, List.reverse_nil, List.nil_append, List.cons_append, Option.toList_some, Option.toList_none, Nat.reduceAdd, Nat.reduceSub, Nat.reduceLT, Nat.reduceEqDiff, Fin.isValue, aTL, aSZ, Int.toNat_natCast, hset_same, hset_o, hset_s, hset_row, ne_eq, Nat.reduceBEq, beq_self_eq_true, Fin.val_zero, Fin.val_one, fin0, fin1, fin2, fin3, Nat.le_refl, Nat.reduceLeDiff, Nat.zero_le, Int.reduceAdd, Int.reduceNeg, Int.reduceLE, Int.reduceLT, Int.reduceToNat, Int.reduceMul, Int.cast_ofNat_Int, Nat.reduceMod, ↓reduceIte, if_true, if_false, and_true, true_and, or_true, true_or, false_or, or_false, and_self, not_true_eq_false, not_false_eq_true, Bool.false_eq_true, reduceCtorEq, false_implies, true_implies, implies_true, and_false, false_and, dX8_readsChord_0, dX8_readsChord_1, dX8_readsChord_4, dX8_readsChord_7, dX8_readsChord_8, dX8_readsChord_9, dX8_readsChord_10, dX8_readsChord_13, dX8_readsChord_14, dX8_readsChord_17, dX8_readsChord_18, dX8_readsChord_21, dX8_readsChord_22, dX8_readsChord_25, dX8_readsChord_26, dX8_readsChord_27, dX8_readsChord_30, dX8_readsChord_31, dX8_readsChord_32, dX8_readsChord_35, dX8_readsChord_38, dX8_readsChord_39, dX8_readsChord_42, dX8_readsChord_43, dX8_readsChord_44, dX8_readsChord_46, dX8_readsChord_49, dX8_readsChord_50, dX8_readsChord_51, dX8_readsChord_54, dX8_readsChord_55, dX8_readsChord_56, dX8_readsChord_59, dX8_readsChord_60, dX8_readsChord_61, dX8_readsChord_64, dX8_readsChord_65, dX8_readsChord_67, dX8_readsChord_68, dX8_readsChord_70, dX8_readsChord_71, dX8_readsChord_74, dX8_readsChord_76, dX8_readsChord_78, dX8_readsChord_81, dX8_readsChord_82, dX8_readsChord_84, dX8_readsChord_85, dX8_readsChord_86, dX8_readsChord_88, dX8_readsChord_91, dX8_readsChord_93, dX8_readsChord_94, dX8_readsChord_97, dX8_readsChord_100, dX8_readsChord_101, dX8_readsChord_104, dX8_readsChord_106, dX8_readsChord_107, dX8_readsChord_110, dX8_readsChord_111, dX8_readsChord_112, dX8_readsChord_113, dX8_readsChord_115, dX8_readsChord_116, dX8_readsChord_118, dX8_readsChord_119, dX8_readsChord_122, dX8_readsChord_123, dX8_readsChord_126, dX8_readsChord_129, dX8_readsChord_130, dX8_readsChord_133, dX8_readsChord_134, dX8_readsChord_137, dX8_readsChord_139, dX8_readsChord_140, dX8_readsChord_143, dX8_readsChord_144, dX8_readsChord_147, dX8_readsChord_148, dX8_readsChord_150, dX8_readsChord_152, dX8_readsChord_155, dX8_readsChord_156, dX8_readsChord_157, dX8_readsChord_158, dX8_readsChord_161, dX8_readsChord_162, dX8_readsChord_165, dX8_readsChord_166, dX8_readsChord_167, dX8_readsChord_170, dX8_readsChord_171, dX8_readsChord_174, dX8_readsChord_175, dX8_readsChord_178, dX8_readsChord_179, dX8_readsChord_180, dX8_readsChord_183, dX8_readsChord_184, dX8_readsChord_185, dX8_readsChord_188, dX8_readsChord_191, dX8_readsChord_192, dX8_readsChord_193, dX8_readsChord_194, dX8_readsChord_197, dX8_readsChord_198, dX8_readsChord_199, dX8_readsChord_200, dX8_readsChord_201, dX8_readsChord_203, dX8_readsChord_204, dX8_readsChord_207, dX8_readsChord_209, dX8_readsChord_210, dX8_readsChord_211, dX8_readsChord_212, dX8_readsChord_215, dX8_readsChord_217, dX8_readsChord_218, dX8_readsChord_219, dX8_readsChord_220, dX8_readsChord_223, dX8_readsChord_224, dX8_readsChord_225, dX8_readsChord_226, dX8_readsChord_227, dX8_readsChord_230, dX8_readsChord_232, dX8_readsChord_233, dX8_readsChord_234, dX8_readsChord_236, dX8_readsChord_237, dX8_readsChord_238, dX8_readsChord_241, dX8_readsChord_243, dX8_readsChord_244, dX8_readsChord_245, dX8_readsChord_246, dX8_readsChord_249, dX8_readsChord_250, dX8_readsChord_253, dX8_readsChord_254, dX8_readsChord_255, dX8_readsChord_256, dX8_readsChord_259, dX8_readsChord_261, dX8_readsChord_262, dX8_readsChord_263, dX8_readsChord_264, dX8_readsChord_267, dX8_readsChord_268, dX8_readsChord_271, dX8_readsChord_272, dX8_readsChord_273, dX8_readsChord_274, dX8_readsChord_277, dX8_readsChord_278, dX8_readsChord_279, dX8_readsChord_280, dX8_readsChord_281, dX8_readsChord_282, dX8_readsChord_283, dX8_readsChord_284, dX8_readsChord_287, dX8_readsChord_288, dX8_readsChord_289, dX8_readsChord_290, dX8_readsChord_292, dX8_readsChord_293, dX8_readsChord_294, cpX8, mT_X8_readsChord, SHl_58, SHl_59, SHl_60, SHl_61, SHl_62, SHl_63, SHl_64, SHl_65, SHl_66, SHl_67, SHl_68, SHl_69, SHl_70, SHl_71, SHl_72, SHl_73, SHl_74, SHl_75, S_X8_figure, S_X8_isWell, S_X8_kindOf, S_X8_takes]
    rw [k3, e65, s1, n10, if_pos (show σ 58 8 < 0 by omega)]
    refine ⟨⟨by omega, by omega⟩, ⟨by decide, by decide⟩, fun z => absurd z (by decide), fun _ => ⟨⟨by omega, by omega⟩, ⟨by decide, by decide⟩, fun z => ⟨⟨by omega, by omega⟩, ?_⟩, fun z => ⟨⟨by omega, by omega⟩, ?_⟩⟩⟩
    · have hC10 : C < 10 := by omega
      exact loop 4 0 τ (p + tkW B L p) (-1) (fun _ => 0) (by omega) (by omega) hk0 hC10 (fun i hi => by omega) hadY (fun c _ => by rw [e65]) (fun i hi => by omega) (by omega) g2 k3 k4 (by omega) (hrun hk0 hC10)
    · have hR : runS (RN B L) B L p b f D = fltR 3 p := by
        unfold runS
        rw [← hkd, if_neg hk0, if_pos (by omega)]
      rw [if_neg (by omega)]
      refine g76 _ _ _ _ (f165 _ _ _ _ _ ?_ ?_ ?_ ?_)
      · exact (adY_k (adY_flt hadY)).2.2.2 hT
      · rw [hset_s (by decide), hset_same]
        omega
      · rw [hset_s (by decide), hset_s (by decide), n11]
        exact ⟨by omega, by omega⟩
      · refine q1 _ 3 p (by omega) l0 hR (adY_flt hadY) ?_ hset_same
        rw [hset_s (by decide), hset_same]
        omega
  have bad0 : kd = 0 → ∀ kd', K 31 [some (.inr (.inl 58)), some (.inl b), some (.inl f), some (.inl kd'), none, none, none, none] [] (hset (hset σ 58 8 (p : Int)) 58 7 1) := fun hk0 kd' => by
    have hR : runS (RN B L) B L p b f D = fltR 1 p := by
      unfold runS
      rw [← hkd, if_pos hk0]
    have hY : adY σ (hset (hset σ 58 8 (p : Int)) 58 7 1) := adY_flt ⟨fun _ _ => rfl, fun _ _ => rfl⟩
    refine f31 _ _ ((adY_k hY).2.2.2 hT) ?_ ?_ ?_
    · rw [hset_s (by decide), hset_same]
      omega
    · rw [hset_s (by decide), hset_s (by decide)]
      exact hr11
    · exact q1 _ 1 p (by omega) l0 hR hY (by rw [hset_s (by decide), hset_same]) hset_same
  have kv := kdZ_b (σ 58 12)
  refine hK (fun q => q == 31) 40 _ _ _ _ ?_
  simp only [↓wp, ↓stp, ilen, lnth, st1, st2, nolong, nohead, rnth, ↓gfX, ↓pfX, gfV, pfV, cpF, cpP, cndZ, ↓tgo, ↓tsw, ↓lsw, ↓ldI, ↓ldA, ↓ldL, ↓stI, ↓stA, ↓stL, ↓bin, ↓binD, ↓binL, ↓binDL, ↓una, ↓acV, ↓acK, ↓acpy, ↓inv, entL, nones, List.length_cons, List.length_nil, List.take, List.drop, List.reverse_cons, List.reverse_nil, List.nil_append, List.cons_append, Option.toList_some, Option.toList_none, Nat.reduceAdd, Nat.reduceSub, Nat.reduceLT, Nat.reduceEqDiff, Fin.isValue, aTL, aSZ, Int.toNat_natCast, hset_same, hset_o, hset_s, hset_row, ne_eq, Nat.reduceBEq, beq_self_eq_true, Fin.val_zero, Fin.val_one, fin0, fin1, fin2, fin3, Nat.le_refl, Nat.reduceLeDiff, Nat.zero_le, Int.reduceAdd, Int.reduceNeg, Int.reduceLE, Int.reduceLT, Int.reduceToNat, Int.reduceMul, Int.cast_ofNat_Int, Nat.reduceMod, ↓reduceIte, if_true, if_false, and_true, true_and, or_true, true_or, false_or, or_false, and_self, not_true_eq_false, not_false_eq_true, Bool.false_eq_true, reduceCtorEq, false_implies, true_implies, implies_true, and_false, false_and, dX8_readsChord_0, dX8_readsChord_1, dX8_readsChord_4, dX8_readsChord_7, dX8_readsChord_8, dX8_readsChord_9, dX8_readsChord_10, dX8_readsChord_13, dX8_readsChord_14, dX8_readsChord_17, dX8_readsChord_18, dX8_readsChord_21, dX8_readsChord_22, dX8_readsChord_25, dX8_readsChord_26, dX8_readsChord_27, dX8_readsChord_30, dX8_readsChord_31, dX8_readsChord_32, dX8_readsChord_35, dX8_readsChord_38, dX8_readsChord_39, dX8_readsChord_42, dX8_readsChord_43, dX8_readsChord_44, dX8_readsChord_46, dX8_readsChord_49, dX8_readsChord_50, dX8_readsChord_51, dX8_readsChord_54, dX8_readsChord_55, dX8_readsChord_56, dX8_readsChord_59, dX8_readsChord_60, dX8_readsChord_61, dX8_readsChord_64, dX8_readsChord_65, dX8_readsChord_67, dX8_readsChord_68, dX8_readsChord_70, dX8_readsChord_71, dX8_readsChord_74, dX8_readsChord_76, dX8_readsChord_78, dX8_readsChord_81, dX8_readsChord_82, dX8_readsChord_84, dX8_readsChord_85, dX8_readsChord_86, dX8_readsChord_88, dX8_readsChord_91, dX8_readsChord_93, dX8_readsChord_94, dX8_readsChord_97, dX8_readsChord_100, dX8_readsChord_101, dX8_readsChord_104, dX8_readsChord_106, dX8_readsChord_107, dX8_readsChord_110, dX8_readsChord_111, dX8_readsChord_112, dX8_readsChord_113, dX8_readsChord_115, dX8_readsChord_116, dX8_readsChord_118, dX8_readsChord_119, dX8_readsChord_122, dX8_readsChord_123, dX8_readsChord_126, dX8_readsChord_129, dX8_readsChord_130, dX8_readsChord_133, dX8_readsChord_134, dX8_readsChord_137, dX8_readsChord_139, dX8_readsChord_140, dX8_readsChord_143, dX8_readsChord_144, dX8_readsChord_147, dX8_readsChord_148, dX8_readsChord_150, dX8_readsChord_152, dX8_readsChord_155, dX8_readsChord_156, dX8_readsChord_157, dX8_readsChord_158, dX8_readsChord_161, dX8_readsChord_162, dX8_readsChord_165, dX8_readsChord_166, dX8_readsChord_167, dX8_readsChord_170, dX8_readsChord_171, dX8_readsChord_174, dX8_readsChord_175, dX8_readsChord_178, dX8_readsChord_179, dX8_readsChord_180, dX8_readsChord_183, dX8_readsChord_184, dX8_readsChord_185, dX8_readsChord_188, dX8_readsChord_191, dX8_readsChord_192, dX8_readsChord_193, dX8_readsChord_194, dX8_readsChord_197, dX8_readsChord_198, dX8_readsChord_199, dX8_readsChord_200, dX8_readsChord_201, dX8_readsChord_203, dX8_readsChord_204, dX8_readsChord_207, dX8_readsChord_209, dX8_readsChord_210, dX8_readsChord_211, dX8_readsChord_212, dX8_readsChord_215, dX8_readsChord_217, dX8_readsChord_218, dX8_readsChord_219, dX8_readsChord_220, dX8_readsChord_223, dX8_readsChord_224, dX8_readsChord_225, dX8_readsChord_226, dX8_readsChord_227, dX8_readsChord_230, dX8_readsChord_232, dX8_readsChord_233, dX8_readsChord_234, dX8_readsChord_236, dX8_readsChord_237, dX8_readsChord_238, dX8_readsChord_241, dX8_readsChord_243, dX8_readsChord_244, dX8_readsChord_245, dX8_readsChord_246, dX8_readsChord_249, dX8_readsChord_250, dX8_readsChord_253, dX8_readsChord_254, dX8_readsChord_255, dX8_readsChord_256, dX8_readsChord_259, dX8_readsChord_261, dX8_readsChord_262, dX8_readsChord_263, dX8_readsChord_264, dX8_readsChord_267, dX8_readsChord_268, dX8_readsChord_271, dX8_readsChord_272, dX8_readsChord_273, dX8_readsChord_274, dX8_readsChord_277, dX8_readsChord_278, dX8_readsChord_279, dX8_readsChord_280, dX8_readsChord_281, dX8_readsChord_282, dX8_readsChord_283, dX8_readsChord_284, dX8_readsChord_287, dX8_readsChord_288, dX8_readsChord_289, dX8_readsChord_290, dX8_readsChord_292, dX8_readsChord_293, dX8_readsChord_294, cpX8, mT_X8_readsChord, SHl_58, SHl_59, SHl_60, SHl_61, SHl_62, SHl_63, SHl_64, SHl_65, SHl_66, SHl_67, SHl_68, SHl_69, SHl_70, SHl_71, SHl_72, SHl_73, SHl_74, SHl_75, S_X8_figure, S_X8_isWell, S_X8_kindOf, S_X8_takes]
  simp only [if_neg h8]
  rw [l10, l11]
  have hne1 : tkT B L p = -1 ∨ ¬ kd = 0 ∨ kd = 0 := by omega
  refine ⟨hr12, ⟨by omega, by omega⟩, ⟨by decide, by decide⟩, fun z => ?_, fun z => ?_⟩
  · have hk0 : kd = 0 := by
      by_cases hk0 : kd = 0
      · exact hk0
      · have := kdZ_T (by rw [← hkd]; exact hk0)
        exact absurd (rfT_1.mpr (by omega)) z
    refine ⟨hT, ⟨by omega, by omega⟩, Or.inl rfl, ?_⟩
    rw [if_pos rfl]
    exact bad0 hk0 _
  · have hz : rfT (tkT B L p) = 1 := by
      by_cases z' : rfT (tkT B L p) = 1
      · exact z'
      · exact absurd z' z
    rw [rfT_1] at hz
    have hTv := lT (by omega)
    rw [hTv, ← hkd]
    refine ⟨⟨by omega, by omega⟩, fun y => ⟨hT, ⟨by omega, by omega⟩, Or.inl rfl, ?_⟩, fun y => ⟨hT, ⟨by omega, by omega⟩, Or.inr rfl, ?_⟩⟩
    · rw [if_pos rfl]
      exact bad0 (by omega) _
    · have hW := tkW_le (B := B) (L := L) (p := p) (by omega)
      have e9 := l9 (by omega) (by omega)
      rw [if_neg (by decide), e9, ← hB, ← hL, Int.toNat_natCast]
      exact ⟨by omega, fun τ g1 g2 => w31 τ (by omega) g1 g2⟩
