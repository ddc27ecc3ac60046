/-! ===== the class: drawn, and what is asked ===== -/
def S_X7_drawOnTrial : MSpec := fun a σ Q => match a with
  | [.inr (.inl 0), .inl m, .inl s] => xPre σ ∧ 1 ≤ σ 7 1 ∧ (0 ≤ m ∧ m ≤ 20) ∧ (1 ≤ s ∧ s ≤ 999999) ∧ ∀ τ, only σ τ (fun q => 22 ≤ q ∧ q ≤ 36) → vC τ 22 = drV (vC σ 7) s m.toNat → coOk τ 22 → Q (some (.inl (drS (vC σ 7) s m.toNat))) τ
  | _ => False
theorem rc_X7_drawOnTrial : ∀ a σ Q, S_X7_drawOnTrial a σ Q → ∃ (p : Nat) (r : List AV), a = .inr (.inl p) :: r ∧ p < 76 ∧ (SH p).1 = 4 ∧ (SH p).2.1 = 6 := by
  intro a σ Q h
  unfold S_X7_drawOnTrial at h
  split at h
  · exact ⟨0, _, rfl, by decide, rfl, rfl⟩
  · exact h.elim
def mT_X7_drawOnTrial (i : Nat) : Option (Nat × Bool × MSpec) := match i with
  | 134 => some (2, true, S_X4_becomeLike)
  | 279 => some (2, true, S_X2_solve)
  | _ => none
theorem mT_X7_drawOnTrial_ok {l : Launch} {n : Nat} (hn : 4 ≤ n) : ∀ i e, mT_X7_drawOnTrial i = some e → mV l (rmOf n) RX7 i e := by
  intro i e h
  unfold mT_X7_drawOnTrial at h
  split at h
  · cases h; exact mvI (lv := 0) (ci := 3) (T := TX4) (N := 9) mw_X4_becomeLike rfl (by omega) (by decide) (by decide +kernel) (gtm 413 (by decide +kernel) (by decide +kernel)) rc_X4_becomeLike ok_X4_becomeLike
  · cases h; exact mvI (lv := 3) (ci := 2) (T := TX2) (N := 10) mw_X2_solve rfl (by omega) (by decide) (by decide +kernel) (gtm 532 (by decide +kernel) (by decide +kernel)) rc_X2_solve ok_X2_solve
  · cases h
set_option maxRecDepth 100000 in
set_option maxHeartbeats 16000000 in
theorem ok_X7_drawOnTrial : ∀ l n, 4 ≤ n → ∀ a σ Q, S_X7_drawOnTrial a σ Q → AM l n yX7_drawOnTrial cX7_drawOnTrial 7 (some .int) a σ Q := by
  intro l n hn a σ Q hS
  unfold S_X7_drawOnTrial at hS
  split at hS
  rotate_left
  · exact hS.elim
  rename_i m s
  obtain ⟨⟨hV, hco, hc⟩, n1, b2, b3, hq⟩ := hS
  obtain ⟨V, hVe⟩ : ∃ V, V = vC σ 7 := ⟨_, rfl⟩
  simp only [← hVe] at hq hV
  obtain ⟨v0, v1, v2⟩ := vC_0 σ 7
  rw [← hVe] at v0 v1 v2
  obtain ⟨o1, o2, o3, -, oc, on⟩ := id hV
  have hnc : 0 < ncV V := by unfold ncV; omega
  have on1 : 0 < V 0 2 := by
    have := oc 0 (by omega)
    omega
  obtain ⟨N, hN⟩ : ∃ N : Nat, m = (N : Int) := ⟨m.toNat, by omega⟩
  rw [hN, Int.toNat_natCast] at hq
  refine am_ofF 1 cpX7 mT_X7_drawOnTrial (plainFor_of_name (by decide +kernel)) (rfl) (Nat.le_of_ble_eq_true rfl) (cpX7_ok) (mT_X7_drawOnTrial_ok hn) (fun K hK => ?_)
  have loop : ∀ (d k : Nat), k + d = N → ∀ τ, only σ τ (fun q => 22 ≤ q ∧ q ≤ 36) → vC τ 22 = drV V s k → coOk τ 22 → K 20 [some (.inr (.inl 0)), some (.inl m), some (.inl s), some (.inr (.inr (drX s k))), none, some (.inl (drS V s k)), some (.inl (k : Int))] [] τ := by
    intro d
    induction d with
    | zero =>
      intro k hk τ ho hv hct
      have kN : k = N := by omega
      rw [kN] at hv ⊢
      refine hK (fun q => q == 20) 100 _ _ _ _ ?_
      simp only [↓wp, ↓stp, ilen, lnth, st1, st2, nolong, nohead, rnth, ↓gfX, ↓pfX, gfV, pfV, cpF, cpP, cndZ, ↓tgo, ↓tsw, ↓lsw, ↓ldI, ↓ldA, ↓ldL, ↓stI, ↓stA, ↓stL, ↓bin, ↓binD, ↓binL, ↓binDL, ↓una, ↓acV, ↓acK, ↓acpy, ↓inv, entL, nones, List.length_cons, List.length_nil, List.take, List.drop, List.reverse_cons, List.reverse_nil, List.nil_append, List.cons_append, Option.toList_some, Option.toList_none, Nat.reduceAdd, Nat.reduceSub, Nat.reduceLT, Nat.reduceEqDiff, Fin.isValue, aTL, aSZ, Int.toNat_natCast, hset_same, hset_o, hset_s, hset_row, ne_eq, Nat.reduceBEq, beq_self_eq_true, Fin.val_zero, Fin.val_one, fin0, fin1, fin2, fin3, Nat.le_refl, Nat.reduceLeDiff, Nat.zero_le, Int.reduceAdd, Int.reduceNeg, Int.reduceLE, Int.reduceLT, Int.reduceToNat, Int.reduceMul, Int.cast_ofNat_Int, Nat.reduceMod, ↓reduceIte, if_true, if_false, and_true, true_and, or_true, true_or, false_or, or_false, and_self, not_true_eq_false, not_false_eq_true, Bool.false_eq_true, reduceCtorEq, false_implies, true_implies, implies_true, and_false, false_and, dX7_drawOnTrial_0, dX7_drawOnTrial_1, dX7_drawOnTrial_4, dX7_drawOnTrial_5, dX7_drawOnTrial_8, dX7_drawOnTrial_11, dX7_drawOnTrial_12, dX7_drawOnTrial_13, dX7_drawOnTrial_14, dX7_drawOnTrial_15, dX7_drawOnTrial_17, dX7_drawOnTrial_18, dX7_drawOnTrial_20, dX7_drawOnTrial_22, dX7_drawOnTrial_23, dX7_drawOnTrial_26, dX7_drawOnTrial_27, dX7_drawOnTrial_30, dX7_drawOnTrial_33, dX7_drawOnTrial_36, dX7_drawOnTrial_37, dX7_drawOnTrial_40, dX7_drawOnTrial_41, dX7_drawOnTrial_44, dX7_drawOnTrial_45, dX7_drawOnTrial_46, dX7_drawOnTrial_47, dX7_drawOnTrial_50, dX7_drawOnTrial_53, dX7_drawOnTrial_54, dX7_drawOnTrial_55, dX7_drawOnTrial_58, dX7_drawOnTrial_61, dX7_drawOnTrial_62, dX7_drawOnTrial_63, dX7_drawOnTrial_64, dX7_drawOnTrial_65, dX7_drawOnTrial_68, dX7_drawOnTrial_69, dX7_drawOnTrial_72, dX7_drawOnTrial_73, dX7_drawOnTrial_74, dX7_drawOnTrial_75, dX7_drawOnTrial_76, dX7_drawOnTrial_79, dX7_drawOnTrial_80, dX7_drawOnTrial_83, dX7_drawOnTrial_86, dX7_drawOnTrial_88, dX7_drawOnTrial_89, dX7_drawOnTrial_92, dX7_drawOnTrial_95, dX7_drawOnTrial_96, dX7_drawOnTrial_98, dX7_drawOnTrial_101, dX7_drawOnTrial_104, dX7_drawOnTrial_106, cpX7, mT_X7_drawOnTrial, SHl_0, SHl_1, SHl_2, SHl_3, SHl_4, SHl_5, SHl_6, SHl_7, SHl_8, SHl_9, SHl_10, SHl_11, SHl_12, SHl_13, SHl_14, SHl_15, SHl_16, SHl_17, SHl_18, SHl_19, SHl_20, SHl_21, SHl_22, SHl_23, SHl_24, SHl_25, SHl_26, SHl_27, SHl_28, SHl_29, SHl_30, SHl_31, SHl_32, SHl_33, SHl_34, SHl_35, SHl_36, SHl_37, SHl_38, SHl_39, SHl_40, SHl_41, SHl_42, SHl_43, SHl_44, SHl_45, SHl_46, SHl_47, SHl_48, SHl_49, SHl_50, SHl_51, SHl_52, SHl_53, SHl_54, SHl_55, SHl_56, SHl_57, S_X2_solve, S_X4_becomeLike]
      have hq' := hq τ ho hv hct
      (repeat' (first | exact hq' | apply And.intro | intro _)) <;> omega
    | succ d ih =>
      intro k hk τ ho hv hct
      obtain ⟨i1, i2, i3, i4⟩ := drV_s s hV k
      obtain ⟨j1, j2, j3, j4⟩ := drV_s s hV (k + 1)
      obtain ⟨u0, u1, u2⟩ := vC_0 τ 22
      rw [hv] at u0 u1 u2
      rw [i3] at u0 u1 u2
      have xb := drX_b b3 k
      have xb1 := drX_b b3 (k + 1)
      have e1 : (drX s k * 16807).tmod 2147483647 = drX s (k + 1) := Int.tmod_eq_emod_of_nonneg (by omega)
      have e2 : (drX s (k + 1)).tmod (V 0 2) = drX s (k + 1) % V 0 2 := Int.tmod_eq_emod_of_nonneg (by omega)
      have e3 : (drX s (k + 1)).tdiv 32 = drX s (k + 1) / 32 := Int.tdiv_eq_ediv_of_nonneg (by omega)
      have e4 : (drX s (k + 1) / 32).tmod 12 = drX s (k + 1) / 32 % 12 := Int.tmod_eq_emod_of_nonneg (by omega)
      have m1 := Int.emod_nonneg (drX s (k + 1)) (show V 0 2 ≠ 0 by omega)
      have m2 := Int.emod_lt_of_pos (drX s (k + 1)) on1
      obtain ⟨ρ, hρ⟩ : ∃ ρ, ρ = hset τ 27 (drX s (k + 1) % V 0 2).toNat (drX s (k + 1) / 32 % 12) := ⟨_, rfl⟩
      have hvr : vC ρ 22 = drV V s (k + 1) := by
        rw [hρ, show (27 : Nat) = 22 + 5 from rfl, vC_k (by omega), hv]
        rfl
      have okr : okV (vC ρ 22) := by rw [hvr]; exact j1
      have hor : only σ ρ (fun q => 22 ≤ q ∧ q ≤ 36) := by
        rw [hρ]
        exact only_set ho (by omega)
      obtain ⟨w0, w1, w2⟩ := vC_0 ρ 22
      rw [hvr, j3] at w0 w1 w2
      have cor : coOk ρ 22 := by
        refine coOk_v (by omega) (by rw [hρ, hset_row (by decide)]) (fun x => ?_) hct
        rw [hvr, hv, (j4 x).1, (j4 x).2, (i4 x).1, (i4 x).2]
        exact ⟨rfl, rfl⟩
      refine hK (fun q => q == 20) 100 _ _ _ _ ?_
      simp only [↓wp, ↓stp, ilen, lnth, st1, st2, nolong, nohead, rnth, ↓gfX, ↓pfX, gfV, pfV, cpF, cpP, cndZ, ↓tgo, ↓tsw, ↓lsw, ↓ldI, ↓ldA, ↓ldL, ↓stI, ↓stA, ↓stL, ↓bin, ↓binD, ↓binL, ↓binDL, ↓una, ↓acV, ↓acK, ↓acpy, ↓inv, entL, nones, List.length_cons, List.length_nil, List.take, List.drop, List.reverse_cons, List.reverse_nil, List.nil_append, List.cons_append, Option.toList_some, Option.toList_none, Nat.reduceAdd, Nat.reduceSub, Nat.reduceLT, Nat.reduceEqDiff, Fin.isValue, aTL, aSZ, Int.toNat_natCast, hset_same, hset_o, hset_s, hset_row, ne_eq, Nat.reduceBEq, beq_self_eq_true, Fin.val_zero, Fin.val_one, fin0, fin1, fin2, fin3, Nat.le_refl, Nat.reduceLeDiff, Nat.zero_le, Int.reduceAdd, Int.reduceNeg, Int.reduceLE, Int.reduceLT, Int.reduceToNat, Int.reduceMul, Int.cast_ofNat_Int, Nat.reduceMod, ↓reduceIte, if_true, if_false, and_true, true_and, or_true, true_or, false_or, or_false, and_self, not_true_eq_false, not_false_eq_true, Bool.false_eq_true, reduceCtorEq, false_implies, true_implies, implies_true, and_false, false_and, dX7_drawOnTrial_0, dX7_drawOnTrial_1, dX7_drawOnTrial_4, dX7_drawOnTrial_5, dX7_drawOnTrial_8, dX7_drawOnTrial_11, dX7_drawOnTrial_12, dX7_drawOnTrial_13, dX7_drawOnTrial_14, dX7_drawOnTrial_15, dX7_drawOnTrial_17, dX7_drawOnTrial_18, dX7_drawOnTrial_20, dX7_drawOnTrial_22, dX7_drawOnTrial_23, dX7_drawOnTrial_26, dX7_drawOnTrial_27, dX7_drawOnTrial_30, dX7_drawOnTrial_33, dX7_drawOnTrial_36, dX7_drawOnTrial_37, dX7_drawOnTrial_40, dX7_drawOnTrial_41, dX7_drawOnTrial_44, dX7_drawOnTrial_45, dX7_drawOnTrial_46, dX7_drawOnTrial_47, dX7_drawOnTrial_50, dX7_drawOnTrial_53, dX7_drawOnTrial_54, dX7_drawOnTrial_55, dX7_drawOnTrial_58, dX7_drawOnTrial_61, dX7_drawOnTrial_62, dX7_drawOnTrial_63, dX7_drawOnTrial_64, dX7_drawOnTrial_65, dX7_drawOnTrial_68, dX7_drawOnTrial_69, dX7_drawOnTrial_72, dX7_drawOnTrial_73, dX7_drawOnTrial_74, dX7_drawOnTrial_75, dX7_drawOnTrial_76, dX7_drawOnTrial_79, dX7_drawOnTrial_80, dX7_drawOnTrial_83, dX7_drawOnTrial_86, dX7_drawOnTrial_88, dX7_drawOnTrial_89, dX7_drawOnTrial_92, dX7_drawOnTrial_95, dX7_drawOnTrial_96, dX7_drawOnTrial_98, dX7_drawOnTrial_101, dX7_drawOnTrial_104, dX7_drawOnTrial_106, cpX7, mT_X7_drawOnTrial, SHl_0, SHl_1, SHl_2, SHl_3, SHl_4, SHl_5, SHl_6, SHl_7, SHl_8, SHl_9, SHl_10, SHl_11, SHl_12, SHl_13, SHl_14, SHl_15, SHl_16, SHl_17, SHl_18, SHl_19, SHl_20, SHl_21, SHl_22, SHl_23, SHl_24, SHl_25, SHl_26, SHl_27, SHl_28, SHl_29, SHl_30, SHl_31, SHl_32, SHl_33, SHl_34, SHl_35, SHl_36, SHl_37, SHl_38, SHl_39, SHl_40, SHl_41, SHl_42, SHl_43, SHl_44, SHl_45, SHl_46, SHl_47, SHl_48, SHl_49, SHl_50, SHl_51, SHl_52, SHl_53, SHl_54, SHl_55, SHl_56, SHl_57, S_X2_solve, S_X4_becomeLike]
      rw [← u2, e1, e2, e3, e4, ← hρ]
      have w1' : 1 ≤ τ 22 1 := by omega
      have hx : ∀ x, svOk ρ x 29 (vC ρ 22) → K 20 [some (.inr (.inl 0)), some (.inl m), some (.inl s), some (.inr (.inr (drX s (k + 1)))), none, some (.inl (drS V s k + x 29 0)), some (.inl ((k : Int) + 1))] [] x := by
        intro x hx
        have hh := ih (k + 1) (by omega) x (fun q hqq => by rw [hx.1 q (by unfold svP; omega)]; exact hor q hqq) ((vC_only hx.1 (fun i hi => by unfold svP; omega)).trans hvr) (coOk_only hx.1 (fun i hi => by unfold svP; omega) cor)
        rw [hx.2.1, hvr]
        exact hh
      (repeat' (first | exact isBs_29 | exact isPc_22 | exact okr | exact hx _ ‹_› | apply And.intro | intro _)) <;> first | omega | (unfold sepBP; omega)
  refine hK (fun q => q == 20) 100 _ _ _ _ ?_
  simp only [↓wp, ↓stp, ilen, lnth, st1, st2, nolong, nohead, rnth, ↓gfX, ↓pfX, gfV, pfV, cpF, cpP, cndZ, ↓tgo, ↓tsw, ↓lsw, ↓ldI, ↓ldA, ↓ldL, ↓stI, ↓stA, ↓stL, ↓bin, ↓binD, ↓binL, ↓binDL, ↓una, ↓acV, ↓acK, ↓acpy, ↓inv, entL, nones, List.length_cons, List.length_nil, List.take, List.drop, List.reverse_cons, List.reverse_nil, List.nil_append, List.cons_append, Option.toList_some, Option.toList_none, Nat.reduceAdd, Nat.reduceSub, Nat.reduceLT, Nat.reduceEqDiff, Fin.isValue, aTL, aSZ, Int.toNat_natCast, hset_same, hset_o, hset_s, hset_row, ne_eq, Nat.reduceBEq, beq_self_eq_true, Fin.val_zero, Fin.val_one, fin0, fin1, fin2, fin3, Nat.le_refl, Nat.reduceLeDiff, Nat.zero_le, Int.reduceAdd, Int.reduceNeg, Int.reduceLE, Int.reduceLT, Int.reduceToNat, Int.reduceMul, Int.cast_ofNat_Int, Nat.reduceMod, ↓reduceIte, if_true, if_false, and_true, true_and, or_true, true_or, false_or, or_false, and_self, not_true_eq_false, not_false_eq_true, Bool.false_eq_true, reduceCtorEq, false_implies, true_implies, implies_true, and_false, false_and, dX7_drawOnTrial_0, dX7_drawOnTrial_1, dX7_drawOnTrial_4, dX7_drawOnTrial_5, dX7_drawOnTrial_8, dX7_drawOnTrial_11, dX7_drawOnTrial_12, dX7_drawOnTrial_13, dX7_drawOnTrial_14, dX7_drawOnTrial_15, dX7_drawOnTrial_17, dX7_drawOnTrial_18, dX7_drawOnTrial_20, dX7_drawOnTrial_22, dX7_drawOnTrial_23, dX7_drawOnTrial_26, dX7_drawOnTrial_27, dX7_drawOnTrial_30, dX7_drawOnTrial_33, dX7_drawOnTrial_36, dX7_drawOnTrial_37, dX7_drawOnTrial_40, dX7_drawOnTrial_41, dX7_drawOnTrial_44, dX7_drawOnTrial_45, dX7_drawOnTrial_46, dX7_drawOnTrial_47, dX7_drawOnTrial_50, dX7_drawOnTrial_53, dX7_drawOnTrial_54, dX7_drawOnTrial_55, dX7_drawOnTrial_58, dX7_drawOnTrial_61, dX7_drawOnTrial_62, dX7_drawOnTrial_63, dX7_drawOnTrial_64, dX7_drawOnTrial_65, dX7_drawOnTrial_68, dX7_drawOnTrial_69, dX7_drawOnTrial_72, dX7_drawOnTrial_73, dX7_drawOnTrial_74, dX7_drawOnTrial_75, dX7_drawOnTrial_76, dX7_drawOnTrial_79, dX7_drawOnTrial_80, dX7_drawOnTrial_83, dX7_drawOnTrial_86, dX7_drawOnTrial_88, dX7_drawOnTrial_89, dX7_drawOnTrial_92, dX7_drawOnTrial_95, dX7_drawOnTrial_96, dX7_drawOnTrial_98, dX7_drawOnTrial_101, dX7_drawOnTrial_104, dX7_drawOnTrial_106, cpX7, mT_X7_drawOnTrial, SHl_0, SHl_1, SHl_2, SHl_3, SHl_4, SHl_5, SHl_6, SHl_7, SHl_8, SHl_9, SHl_10, SHl_11, SHl_12, SHl_13, SHl_14, SHl_15, SHl_16, SHl_17, SHl_18, SHl_19, SHl_20, SHl_21, SHl_22, SHl_23, SHl_24, SHl_25, SHl_26, SHl_27, SHl_28, SHl_29, SHl_30, SHl_31, SHl_32, SHl_33, SHl_34, SHl_35, SHl_36, SHl_37, SHl_38, SHl_39, SHl_40, SHl_41, SHl_42, SHl_43, SHl_44, SHl_45, SHl_46, SHl_47, SHl_48, SHl_49, SHl_50, SHl_51, SHl_52, SHl_53, SHl_54, SHl_55, SHl_56, SHl_57, S_X2_solve, S_X4_becomeLike]
  refine ⟨isPc_22, isPc_7, by rw [← hVe]; exact hV, fun τ h1 h2 h3 => ?_⟩
  rw [← hVe] at h2
  have hx := loop N 0 (by omega) τ (fun q hqq => h1 q (by unfold inP; omega)) h2 (h3 hco)
  (repeat' (first | exact hx | apply And.intro | intro _)) <;> omega
def S_X7_drawn : MSpec := fun a σ Q => match a with
  | [.inr (.inl 0), .inl m, .inl s, .inl w] => R32 m ∧ R32 s ∧ R32 w ∧ xPre σ ∧ (if σ 7 1 = 0 then Q (some (.inl (-1000002))) σ else if ¬ (0 ≤ m ∧ m ≤ 20) ∨ ¬ (1 ≤ s ∧ s ≤ 999999) ∨ ¬ (0 ≤ w ∧ w ≤ 1) then Q (some (.inl (-1000001))) σ else ∀ τ, xS σ τ → Q (some (.inl (if w = 0 then drS (vC σ 7) s m.toNat else signsV (drV (vC σ 7) s m.toNat)))) τ)
  | _ => False
theorem rc_X7_drawn : ∀ a σ Q, S_X7_drawn a σ Q → ∃ (p : Nat) (r : List AV), a = .inr (.inl p) :: r ∧ p < 76 ∧ (SH p).1 = 4 ∧ (SH p).2.1 = 6 := by
  intro a σ Q h
  unfold S_X7_drawn at h
  split at h
  · exact ⟨0, _, rfl, by decide, rfl, rfl⟩
  · exact h.elim
def mT_X7_drawn (i : Nat) : Option (Nat × Bool × MSpec) := match i with
  | 167 => some (1, true, S_X7_isNoPiece)
  | 276 => some (3, true, S_X7_drawOnTrial)
  | 279 => some (2, true, S_X2_solve)
  | 282 => some (2, true, S_X2_spell)
  | _ => none
theorem mT_X7_drawn_ok {l : Launch} {n : Nat} (hn : 5 ≤ n) : ∀ i e, mT_X7_drawn i = some e → mV l (rmOf n) RX7 i e := by
  intro i e h
  unfold mT_X7_drawn at h
  split at h
  · cases h; exact mvI (lv := 0) (ci := 6) (T := TX7) (N := 15) mw_X7_isNoPiece rfl (by omega) (by decide) (by decide +kernel) (gtm 465 (by decide +kernel) (by decide +kernel)) rc_X7_isNoPiece ok_X7_isNoPiece
  · cases h; exact mvI (lv := 4) (ci := 6) (T := TX7) (N := 15) mw_X7_drawOnTrial rfl (by omega) (by decide) (by decide +kernel) (gtm 666 (by decide +kernel) (by decide +kernel)) rc_X7_drawOnTrial ok_X7_drawOnTrial
  · cases h; exact mvI (lv := 3) (ci := 2) (T := TX2) (N := 10) mw_X2_solve rfl (by omega) (by decide) (by decide +kernel) (gtm 532 (by decide +kernel) (by decide +kernel)) rc_X2_solve ok_X2_solve
  · cases h; exact mvI (lv := 3) (ci := 2) (T := TX2) (N := 10) mw_X2_spell rfl (by omega) (by decide) (by decide +kernel) (gtm 571 (by decide +kernel) (by decide +kernel)) rc_X2_spell ok_X2_spell
  · cases h
set_option maxRecDepth 100000 in
set_option maxHeartbeats 4000000 in
theorem ok_X7_drawn : ∀ l n, 5 ≤ n → ∀ a σ Q, S_X7_drawn a σ Q → AM l n yX7_drawn cX7_drawn 5 (some .int) a σ Q := by
  intro l n hn a σ Q hS
  unfold S_X7_drawn at hS
  split at hS
  rotate_left
  · exact hS.elim
  rename_i m s w
  obtain ⟨⟨m1, m2⟩, ⟨s1, s2⟩, ⟨w1, w2⟩, hp, hq⟩ := hS
  refine am_ofF 1 cpX7 mT_X7_drawn (plainFor_of_name (by decide +kernel)) (rfl) (Nat.le_of_ble_eq_true rfl) (cpX7_ok) (mT_X7_drawn_ok hn) (fun K hK => ?_)
  refine hK (fun _ => false) 200 _ _ _ _ ?_
  simp only [↓wp, ↓stp, ilen, lnth, st1, st2, nolong, nohead, rnth, ↓gfX, ↓pfX, gfV, pfV, cpF, cpP, cndZ, ↓tgo, ↓tsw, ↓lsw, ↓ldI, ↓ldA, ↓ldL, ↓stI, ↓stA, ↓stL, ↓bin, ↓binD, ↓binL, ↓binDL, ↓una, ↓acV, ↓acK, ↓acpy, ↓inv, entL, nones, List.length_cons, List.length_nil, List.take, List.drop, List.reverse_cons, List.reverse_nil, List.nil_append, List.cons_append, Option.toList_some, Option.toList_none, Nat.reduceAdd, Nat.reduceSub, Nat.reduceLT, Nat.reduceEqDiff, Fin.isValue, aTL, aSZ, Int.toNat_natCast, hset_same, hset_o, hset_s, hset_row, ne_eq, Nat.reduceBEq, beq_self_eq_true, Fin.val_zero, Fin.val_one, fin0, fin1, fin2, fin3, Nat.le_refl, Nat.reduceLeDiff, Nat.zero_le, Int.reduceAdd, Int.reduceNeg, Int.reduceLE, Int.reduceLT, Int.reduceToNat, Int.reduceMul, Int.cast_ofNat_Int, Nat.reduceMod, ↓reduceIte, if_true, if_false, and_true, true_and, or_true, true_or, false_or, or_false, and_self, not_true_eq_false, not_false_eq_true, Bool.false_eq_true, reduceCtorEq, false_implies, true_implies, implies_true, and_false, false_and, dX7_drawn_0, dX7_drawn_1, dX7_drawn_4, dX7_drawn_7, dX7_drawn_9, dX7_drawn_10, dX7_drawn_11, dX7_drawn_14, dX7_drawn_15, dX7_drawn_17, dX7_drawn_20, dX7_drawn_21, dX7_drawn_22, dX7_drawn_25, dX7_drawn_26, dX7_drawn_29, dX7_drawn_32, dX7_drawn_33, dX7_drawn_36, dX7_drawn_37, dX7_drawn_38, dX7_drawn_41, dX7_drawn_43, dX7_drawn_44, dX7_drawn_45, dX7_drawn_46, dX7_drawn_47, dX7_drawn_50, dX7_drawn_52, dX7_drawn_53, dX7_drawn_56, dX7_drawn_58, dX7_drawn_59, dX7_drawn_60, dX7_drawn_63, dX7_drawn_64, dX7_drawn_67, dX7_drawn_70, dX7_drawn_71, dX7_drawn_74, dX7_drawn_75, dX7_drawn_78, dX7_drawn_81, dX7_drawn_82, dX7_drawn_85, dX7_drawn_88, cpX7, mT_X7_drawn, SHl_0, SHl_1, SHl_2, SHl_3, SHl_4, SHl_5, SHl_6, SHl_7, SHl_8, SHl_9, SHl_10, SHl_11, SHl_12, SHl_13, SHl_14, SHl_15, SHl_16, SHl_17, SHl_18, SHl_19, SHl_20, SHl_21, SHl_22, SHl_23, SHl_24, SHl_25, SHl_26, SHl_27, SHl_28, SHl_29, SHl_30, SHl_31, SHl_32, SHl_33, SHl_34, SHl_35, SHl_36, SHl_37, SHl_38, SHl_39, SHl_40, SHl_41, SHl_42, SHl_43, SHl_44, SHl_45, SHl_46, SHl_47, SHl_48, SHl_49, SHl_50, SHl_51, SHl_52, SHl_53, SHl_54, SHl_55, SHl_56, SHl_57, S_X2_solve, S_X2_spell, S_X7_drawOnTrial, S_X7_isNoPiece]
  obtain ⟨v0, v1, v2⟩ := vC_0 σ 7
  obtain ⟨hV, hco, hc⟩ := id hp
  have o2 := hV.2.1
  by_cases h0 : σ 7 1 = 0
  · rw [if_pos h0] at hq
    (repeat' (first | exact hq | apply And.intro | intro _)) <;> omega
  · rw [if_neg h0] at hq
    by_cases hb : ¬ (0 ≤ m ∧ m ≤ 20) ∨ ¬ (1 ≤ s ∧ s ≤ 999999) ∨ ¬ (0 ≤ w ∧ w ≤ 1)
    · rw [if_pos hb] at hq
      (repeat' (first | exact hq | apply And.intro | intro _)) <;> omega
    · rw [if_neg hb] at hq
      obtain ⟨d1, d2, d3, d4⟩ := drV_s s hV m.toNat
      have hx : xPre σ ∧ 1 ≤ σ 7 1 ∧ (0 ≤ m ∧ m ≤ 20) ∧ (1 ≤ s ∧ s ≤ 999999) := ⟨hp, by omega, by omega, by omega⟩
      have hw0 : w = 0 → ∀ τ, only σ τ (fun q => 22 ≤ q ∧ q ≤ 36) → Q (some (.inl (drS (vC σ 7) s m.toNat))) τ := fun h τ hτ => by
        have := hq τ (xS_trial hτ hc)
        rw [if_pos h] at this
        exact this
      have hw1 : ¬ w = 0 → ∀ τ, only σ τ (fun q => 22 ≤ q ∧ q ≤ 36) → vC τ 22 = drV (vC σ 7) s m.toNat → coOk τ 22 → (isBs 29 ∧ isPc 22 ∧ sepBP 29 22 ∧ okV (vC τ 22) ∧ 1 ≤ τ 22 1 ∧ ∀ ρ, svOk τ ρ 29 (vC τ 22) → (isBs 29 ∧ isPc 22 ∧ sepBP 29 22 ∧ okV (vC ρ 22) ∧ 1 ≤ ρ 22 1 ∧ coOk ρ 22 ∧ (∀ c, c < ncV (vC ρ 22) → ρ (29 + 1) c = (winV (vC ρ 22) c : Int) - 15) ∧ ∀ x, spOk ρ x 29 (vC ρ 22) → Q (some (.inl (x 29 2))) x)) := by
        intro h τ ho hv hct
        obtain ⟨u0, u1, u2⟩ := vC_0 τ 22
        rw [hv, d3] at u0 u1 u2
        refine ⟨isBs_29, isPc_22, by unfold sepBP; omega, by rw [hv]; exact d1, by omega, fun ρ hρ => ?_⟩
        obtain ⟨so, t0, t1, t2, tw⟩ := hρ
        have hp22 : ∀ i, i ≤ 6 → ¬ svP 29 (22 + i) := fun i hi => by unfold svP; omega
        have vr : vC ρ 22 = vC τ 22 := vC_only so hp22
        refine ⟨isBs_29, isPc_22, by unfold sepBP; omega, by rw [vr, hv]; exact d1, by rw [so 22 (hp22 0 (by omega))]; omega, coOk_only so hp22 hct, by rw [vr]; exact tw, fun x hx => ?_⟩
        rw [hx.2.2.2.1, vr, hv]
        have := hq x (xS_trial (fun q hqq => by rw [hx.1 q (by unfold spP; omega), so q (by unfold svP; omega)]; exact ho q hqq) hc)
        rw [if_neg h] at this
        exact this
      have hc1 : ∀ τ, only σ τ (fun q => 22 ≤ q ∧ q ≤ 36) → vC τ 22 = drV (vC σ 7) s m.toNat → coOk τ 22 → R32 w ∧ (w = 0 → Q (some (.inl (drS (vC σ 7) s m.toNat))) τ) := fun τ h1 h2 h3 => ⟨⟨w1, w2⟩, fun h => hw0 h τ h1⟩
      (repeat' (first | exact hp | exact hw0 (by omega) _ ‹_› | exact hw1 (by omega) _ ‹_› ‹_› ‹_› | apply And.intro | intro _)) <;> omega
