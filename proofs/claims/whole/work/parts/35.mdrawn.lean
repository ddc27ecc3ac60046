/-! ===== the reference: drawn ===== -/
def drX (s : Int) : Nat → Int
  | 0 => s
  | k + 1 => drX s k * 16807 % 2147483647
def drV (V : HP) (s : Int) : Nat → HP
  | 0 => V
  | k + 1 => hset (drV V s k) 6 (drX s (k + 1) % V 0 2).toNat (drX s (k + 1) / 32 % 12)
def drS (V : HP) (s : Int) : Nat → Int
  | 0 => 0
  | k + 1 => drS V s k + bestV (drV V s (k + 1))
theorem drX_b {s : Int} (h : 1 ≤ s ∧ s ≤ 999999) : ∀ k, 0 ≤ drX s k ∧ drX s k < 2147483647
  | 0 => by unfold drX; omega
  | k + 1 => by unfold drX; omega
theorem drV_s {V : HP} (s : Int) (hV : okV V) : ∀ k, okV (drV V s k) ∧ ncV (drV V s k) = ncV V ∧ (∀ c, drV V s k 0 c = V 0 c) ∧ ∀ c, drV V s k 4 c = V 4 c ∧ drV V s k 5 c = V 5 c
  | 0 => ⟨hV, rfl, fun _ => rfl, fun _ => ⟨rfl, rfl⟩⟩
  | k + 1 => by
    obtain ⟨i1, i2, i3, i4⟩ := drV_s s hV k
    refine ⟨okV_k i1 (by omega), by unfold drV; rw [ncV_u (by omega), i2], fun c => ?_, fun c => ?_⟩
    · show hset _ _ _ _ 0 c = _
      rw [hset_o (by decide), i3]
    · show hset _ _ _ _ 4 c = _ ∧ hset _ _ _ _ 5 c = _
      rw [hset_o (by decide), hset_o (by decide)]
      exact i4 c
theorem drS_b {V : HP} (s : Int) (hV : okV V) (h : 0 < ncV V) : ∀ k : Nat, 0 ≤ drS V s k ∧ drS V s k ≤ 840 * k
  | 0 => by unfold drS; omega
  | k + 1 => by
    have i := drS_b s hV h k
    obtain ⟨i1, i2, -⟩ := drV_s s hV (k + 1)
    have := bestV_b i1 (by omega)
    unfold drS
    omega
def S_X8_drawn : MSpec := fun a σ Q => match a with
  | [.inr (.inl 58), .inl m, .inl s, .inl w] => R32 m ∧ R32 s ∧ R32 w ∧ okV (vM σ 64 0) ∧ (if σ 64 1 = 0 then Q (some (.inl (-1000002))) σ else if ¬ (0 ≤ m ∧ m ≤ 20) ∨ ¬ (1 ≤ s ∧ s ≤ 999999) ∨ ¬ (0 ≤ w ∧ w ≤ 1) then Q (some (.inl (-1000001))) σ else ∀ τ, mS σ τ → Q (some (.inl (if w = 0 then drS (vM σ 64 0) s m.toNat else signsV (drV (vM σ 64 0) s m.toNat)))) τ)
  | _ => False
theorem rc_X8_drawn : ∀ a σ Q, S_X8_drawn a σ Q → ∃ (p : Nat) (r : List AV), a = .inr (.inl p) :: r ∧ p < 76 ∧ (SH p).1 = 4 ∧ (SH p).2.1 = 7 := by
  intro a σ Q h
  unfold S_X8_drawn at h
  split at h
  · exact ⟨58, _, rfl, by decide, rfl, rfl⟩
  · exact h.elim
def mT_X8_drawn (i : Nat) : Option (Nat × Bool × MSpec) := match i with
  | 68 => some (3, false, S_X8_in)
  | 147 => some (4, false, S_X8_copies)
  | 202 => some (2, true, S_X8_finds)
  | 215 => some (1, true, S_X8_isPiece)
  | 224 => some (2, true, S_X8_prints)
  | _ => none
theorem mT_X8_drawn_ok {l : Launch} {n : Nat} (hn : 8 ≤ n) : ∀ i e, mT_X8_drawn i = some e → mV l (rmOf n) RX8 i e := by
  intro i e h
  unfold mT_X8_drawn at h
  split at h
  · cases h; exact mvS (lv := 0) mw_X8_in (by omega) (by decide) (by decide +kernel) (Or.inl (gtm 831 (by decide +kernel) (by decide +kernel))) ok_X8_in
  · cases h; exact mvS (lv := 0) mw_X8_copies (by omega) (by decide) (by decide +kernel) (Or.inl (gtm 912 (by decide +kernel) (by decide +kernel))) ok_X8_copies
  · cases h; exact mvI (lv := 6) (ci := 7) (T := TX8) (N := 28) mw_X8_finds rfl (by omega) (by decide) (by decide +kernel) (gtm 1001 (by decide +kernel) (by decide +kernel)) rc_X8_finds ok_X8_finds
  · cases h; exact mvI (lv := 0) (ci := 7) (T := TX8) (N := 28) mw_X8_isPiece rfl (by omega) (by decide) (by decide +kernel) (gtm 944 (by decide +kernel) (by decide +kernel)) rc_X8_isPiece ok_X8_isPiece
  · cases h; exact mvI (lv := 7) (ci := 7) (T := TX8) (N := 28) mw_X8_prints rfl (by omega) (by decide) (by decide +kernel) (gtm 997 (by decide +kernel) (by decide +kernel)) rc_X8_prints ok_X8_prints
  · cases h
set_option maxRecDepth 100000 in
set_option maxHeartbeats 16000000 in
theorem ok_X8_drawn : ∀ l n, 8 ≤ n → ∀ a σ Q, S_X8_drawn a σ Q → AM l n yX8_drawn cX8_drawn 8 (some .int) a σ Q := by
  intro l n hn a σ Q hS
  unfold S_X8_drawn at hS
  split at hS
  rotate_left
  · exact hS.elim
  rename_i m s w
  obtain ⟨⟨m1, m2⟩, ⟨s1, s2⟩, ⟨w1, w2⟩, hV, hq⟩ := hS
  obtain ⟨V, hVe⟩ : ∃ V, V = vM σ 64 0 := ⟨_, rfl⟩
  simp only [← hVe] at hq hV
  obtain ⟨v0, v1, v2⟩ := vM_0 σ 64
  rw [← hVe] at v0 v1 v2
  obtain ⟨o1, o2, o3, -, oc, on⟩ := id hV
  refine am_ofF 1 cpX8 mT_X8_drawn (plainFor_of_name (by decide +kernel)) (rfl) (Nat.le_of_ble_eq_true rfl) (cpX8_ok) (mT_X8_drawn_ok hn) (fun K hK => ?_)
  have main : ¬ σ 64 1 = 0 → (0 ≤ m ∧ m ≤ 20) → (1 ≤ s ∧ s ≤ 999999) → (0 ≤ w ∧ w ≤ 1) → K 65 [some (.inr (.inl 58)), some (.inl m), some (.inl s), some (.inl w), some (.inr (.inr s)), none, some (.inl 0), some (.inl 0)] [] (hcpy σ 64 0 66 0 93) := by
    intro b1 b2 b3 b4
    rw [if_neg b1, if_neg (by omega)] at hq
    have hnc : 0 < ncV V := by unfold ncV; omega
    have on1 : 0 < V 0 2 := by
      have := oc 0 (by omega)
      omega
    obtain ⟨N, hN⟩ : ∃ N : Nat, m = (N : Int) := ⟨m.toNat, by omega⟩
    rw [hN] at hq
    simp only [Int.toNat_natCast] at hq
    have loop : ∀ (d k : Nat), k + d = N → ∀ τ, mS σ τ → vM τ 66 0 = drV V s k → K 65 [some (.inr (.inl 58)), some (.inl m), some (.inl s), some (.inl w), some (.inr (.inr (drX s k))), none, some (.inl (if w = 0 then drS V s k else 0)), some (.inl (k : Int))] [] τ := by
      intro d
      induction d with
      | zero =>
        intro k hk τ hτ hv
        have kN : k = N := by omega
        rw [kN] at hv ⊢
        obtain ⟨i1, i2, i3, i4⟩ := drV_s s hV N
        obtain ⟨u0, u1, u2⟩ := vM_0 τ 66
        rw [hv, i3] at u0 u1 u2
        refine hK (fun q => q == 65) 100 _ _ _ _ ?_
        simp only [↓wp, ↓stp, ilen, lnth, st1, st2, nolong, nohead, rnth, ↓gfX, ↓pfX, gfV, pfV, cpF, cpP, cndZ, ↓tgo, ↓tsw, ↓lsw, ↓ldI, ↓ldA, ↓ldL, ↓stI, ↓stA, ↓stL, ↓bin, ↓binD, ↓binL, ↓binDL, ↓una, ↓acV, ↓acK, ↓acpy, ↓inv, entL, nones, List.length_cons, List.length_nil, List.take, List.drop, List.reverse_cons, List.reverse_nil, List.nil_append, List.cons_append, Option.toList_some, Option.toList_none, Nat.reduceAdd, Nat.reduceSub, Nat.reduceLT, Nat.reduceEqDiff, Fin.isValue, aTL, aSZ, Int.toNat_natCast, hset_same, hset_o, hset_s, hset_row, ne_eq, Nat.reduceBEq, beq_self_eq_true, Fin.val_zero, Fin.val_one, fin0, fin1, fin2, fin3, Nat.le_refl, Nat.reduceLeDiff, Nat.zero_le, Int.reduceAdd, Int.reduceNeg, Int.reduceLE, Int.reduceLT, Int.reduceToNat, Int.reduceMul, Int.cast_ofNat_Int, Nat.reduceMod, ↓reduceIte, if_true, if_false, and_true, true_and, or_true, true_or, false_or, or_false, and_self, not_true_eq_false, not_false_eq_true, Bool.false_eq_true, reduceCtorEq, false_implies, true_implies, implies_true, and_false, false_and, dX8_drawn_0, dX8_drawn_1, dX8_drawn_4, dX8_drawn_7, dX8_drawn_9, dX8_drawn_10, dX8_drawn_11, dX8_drawn_12, dX8_drawn_14, dX8_drawn_17, dX8_drawn_20, dX8_drawn_21, dX8_drawn_22, dX8_drawn_24, dX8_drawn_27, dX8_drawn_30, dX8_drawn_31, dX8_drawn_32, dX8_drawn_33, dX8_drawn_36, dX8_drawn_39, dX8_drawn_41, dX8_drawn_42, dX8_drawn_43, dX8_drawn_46, dX8_drawn_47, dX8_drawn_48, dX8_drawn_51, dX8_drawn_52, dX8_drawn_55, dX8_drawn_56, dX8_drawn_57, dX8_drawn_59, dX8_drawn_60, dX8_drawn_62, dX8_drawn_63, dX8_drawn_65, dX8_drawn_67, dX8_drawn_68, dX8_drawn_71, dX8_drawn_73, dX8_drawn_76, dX8_drawn_77, dX8_drawn_80, dX8_drawn_81, dX8_drawn_83, dX8_drawn_84, dX8_drawn_87, dX8_drawn_89, dX8_drawn_91, dX8_drawn_92, dX8_drawn_95, dX8_drawn_96, dX8_drawn_97, dX8_drawn_98, dX8_drawn_99, dX8_drawn_100, dX8_drawn_101, dX8_drawn_103, dX8_drawn_106, dX8_drawn_107, dX8_drawn_110, dX8_drawn_111, dX8_drawn_112, dX8_drawn_113, dX8_drawn_114, dX8_drawn_117, dX8_drawn_118, dX8_drawn_119, dX8_drawn_122, dX8_drawn_125, dX8_drawn_127, dX8_drawn_128, dX8_drawn_131, dX8_drawn_132, dX8_drawn_134, dX8_drawn_137, dX8_drawn_140, dX8_drawn_141, dX8_drawn_144, dX8_drawn_146, dX8_drawn_149, dX8_drawn_150, dX8_drawn_151, dX8_drawn_154, dX8_drawn_157, cpX8, mT_X8_drawn, SHl_58, SHl_59, SHl_60, SHl_61, SHl_62, SHl_63, SHl_64, SHl_65, SHl_66, SHl_67, SHl_68, SHl_69, SHl_70, SHl_71, SHl_72, SHl_73, SHl_74, SHl_75, S_X8_copies, S_X8_finds, S_X8_in, S_X8_isPiece, S_X8_prints]
        rw [hv]
        by_cases h0 : w = 0
        · have hq' := hq τ hτ
          rw [if_pos h0] at hq' ⊢
          (repeat' (first | exact hq' | exact isW_66 | exact i1 | apply And.intro | intro _)) <;> first | omega | (exfalso; omega)
        · have hq' : ∀ ρ, prOk τ ρ (drV V s N) → Q (some (.inl (signsV (drV V s N)))) ρ := fun ρ hρ => by
            have := hq ρ (mS_tr hτ (mS_pr hρ))
            rw [if_neg h0] at this
            exact this
          (repeat' (first | exact hq' _ ‹_› | exact isW_66 | exact i1 | apply And.intro | intro _)) <;> first | omega | (exfalso; omega)
      | succ d ih =>
        intro k hk τ hτ hv
        obtain ⟨i1, i2, i3, i4⟩ := drV_s s hV k
        obtain ⟨j1, j2, j3, j4⟩ := drV_s s hV (k + 1)
        obtain ⟨u0, u1, u2⟩ := vM_0 τ 66
        rw [hv] at u0 u1 u2
        rw [i3] at u0 u1 u2
        have xb := drX_b b3 k
        have xb1 := drX_b b3 (k + 1)
        have h64 := mS_64 hτ
        have e1 : (drX s k * 16807).tmod 2147483647 = drX s (k + 1) := Int.tmod_eq_emod_of_nonneg (by omega)
        have e2 : (drX s (k + 1)).tmod (V 0 2) = drX s (k + 1) % V 0 2 := Int.tmod_eq_emod_of_nonneg (by omega)
        have e3 : (drX s (k + 1)).tdiv 32 = drX s (k + 1) / 32 := Int.tdiv_eq_ediv_of_nonneg (by omega)
        have e4 : (drX s (k + 1) / 32).tmod 12 = drX s (k + 1) / 32 % 12 := Int.tmod_eq_emod_of_nonneg (by omega)
        have m1 := Int.emod_nonneg (drX s (k + 1)) (show V 0 2 ≠ 0 by omega)
        have m2 := Int.emod_lt_of_pos (drX s (k + 1)) on1
        obtain ⟨ρ, hρ⟩ : ∃ ρ, ρ = hset τ 66 (53 + drX s (k + 1) % V 0 2).toNat (drX s (k + 1) / 32 % 12) := ⟨_, rfl⟩
        have hvr : vM ρ 66 0 = drV V s (k + 1) := by
          rw [hρ, show (53 + drX s (k + 1) % V 0 2).toNat = 53 + (drX s (k + 1) % V 0 2).toNat by omega, vM_k (by omega) (by omega), hv]
          rfl
        have hmr : mS σ ρ := by
          rw [hρ]
          refine ⟨fun q hqq => ?_, fun j hj => ?_⟩
          · rw [hset_row (by unfold scP at hqq; omega)]
            exact hτ.1 q hqq
          · rw [hset_o (by decide)]
            exact hτ.2 j hj
        obtain ⟨t0, t1, t2⟩ := vM_0 ρ 66
        rw [hvr, j3] at t0 t1 t2
        refine hK (fun q => q == 65) 100 _ _ _ _ ?_
        simp only [↓wp, ↓stp, ilen, lnth, st1, st2, nolong, nohead, rnth, ↓gfX, ↓pfX, gfV, pfV, cpF, cpP, cndZ, ↓tgo, ↓tsw, ↓lsw, ↓ldI, ↓ldA, ↓ldL, ↓stI, ↓stA, ↓stL, ↓bin, ↓binD, ↓binL, ↓binDL, ↓una, ↓acV, ↓acK, ↓acpy, ↓inv, entL, nones, List.length_cons, List.length_nil, List.take, List.drop, List.reverse_cons, List.reverse_nil, List.nil_append, List.cons_append, Option.toList_some, Option.toList_none, Nat.reduceAdd, Nat.reduceSub, Nat.reduceLT, Nat.reduceEqDiff, Fin.isValue, aTL, aSZ, Int.toNat_natCast, hset_same, hset_o, hset_s, hset_row, ne_eq, Nat.reduceBEq, beq_self_eq_true, Fin.val_zero, Fin.val_one, fin0, fin1, fin2, fin3, Nat.le_refl, Nat.reduceLeDiff, Nat.zero_le, Int.reduceAdd, Int.reduceNeg, Int.reduceLE, Int.reduceLT, Int.reduceToNat, Int.reduceMul, Int.cast_ofNat_Int, Nat.reduceMod, ↓reduceIte, if_true, if_false, and_true, true_and, or_true, true_or, false_or, or_false, and_self, not_true_eq_false, not_false_eq_true, Bool.false_eq_true, reduceCtorEq, false_implies, true_implies, implies_true, and_false, false_and, dX8_drawn_0, dX8_drawn_1, dX8_drawn_4, dX8_drawn_7, dX8_drawn_9, dX8_drawn_10, dX8_drawn_11, dX8_drawn_12, dX8_drawn_14, dX8_drawn_17, dX8_drawn_20, dX8_drawn_21, dX8_drawn_22, dX8_drawn_24, dX8_drawn_27, dX8_drawn_30, dX8_drawn_31, dX8_drawn_32, dX8_drawn_33, dX8_drawn_36, dX8_drawn_39, dX8_drawn_41, dX8_drawn_42, dX8_drawn_43, dX8_drawn_46, dX8_drawn_47, dX8_drawn_48, dX8_drawn_51, dX8_drawn_52, dX8_drawn_55, dX8_drawn_56, dX8_drawn_57, dX8_drawn_59, dX8_drawn_60, dX8_drawn_62, dX8_drawn_63, dX8_drawn_65, dX8_drawn_67, dX8_drawn_68, dX8_drawn_71, dX8_drawn_73, dX8_drawn_76, dX8_drawn_77, dX8_drawn_80, dX8_drawn_81, dX8_drawn_83, dX8_drawn_84, dX8_drawn_87, dX8_drawn_89, dX8_drawn_91, dX8_drawn_92, dX8_drawn_95, dX8_drawn_96, dX8_drawn_97, dX8_drawn_98, dX8_drawn_99, dX8_drawn_100, dX8_drawn_101, dX8_drawn_103, dX8_drawn_106, dX8_drawn_107, dX8_drawn_110, dX8_drawn_111, dX8_drawn_112, dX8_drawn_113, dX8_drawn_114, dX8_drawn_117, dX8_drawn_118, dX8_drawn_119, dX8_drawn_122, dX8_drawn_125, dX8_drawn_127, dX8_drawn_128, dX8_drawn_131, dX8_drawn_132, dX8_drawn_134, dX8_drawn_137, dX8_drawn_140, dX8_drawn_141, dX8_drawn_144, dX8_drawn_146, dX8_drawn_149, dX8_drawn_150, dX8_drawn_151, dX8_drawn_154, dX8_drawn_157, cpX8, mT_X8_drawn, SHl_58, SHl_59, SHl_60, SHl_61, SHl_62, SHl_63, SHl_64, SHl_65, SHl_66, SHl_67, SHl_68, SHl_69, SHl_70, SHl_71, SHl_72, SHl_73, SHl_74, SHl_75, S_X8_copies, S_X8_finds, S_X8_in, S_X8_isPiece, S_X8_prints]
        rw [h64, ← v2, e1, e2, e3, e4, ← hρ, hvr]
        by_cases h0 : w = 0
        · have hx : ∀ x, fdOk ρ x (drV V s (k + 1)) → K 65 [some (.inr (.inl 58)), some (.inl m), some (.inl s), some (.inl w), some (.inr (.inr (drX s (k + 1)))), none, some (.inl ((if w = 0 then drS V s k else 0) + x 58 23)), some (.inl ((k : Int) + 1))] [] x := fun x hx => by
            have hh := ih (k + 1) (by omega) x (mS_tr hmr (mS_fd hx)) (by rw [vM_only (hx.1 66 (by unfold fdP; omega))]; exact hvr)
            rw [if_pos h0] at hh ⊢
            rw [hx.2.2.1]
            exact hh
          (repeat' (first | exact hx _ ‹_› | exact isW_66 | exact j1 | apply And.intro | intro _)) <;> first | omega | (exfalso; omega)
        · have hx := ih (k + 1) (by omega) ρ hmr hvr
          rw [if_neg h0] at hx ⊢
          (repeat' (first | exact hx | exact isW_66 | exact j1 | apply And.intro | intro _)) <;> first | omega | (exfalso; omega)
    have hx := loop N 0 (by omega) (hcpy σ 64 0 66 0 93) ⟨fun q hqq => hcpy_f (by unfold scP at hqq; omega), fun j hj => by rw [hcpy_f (by decide)]⟩ (by rw [tried_v (by omega) (by omega), ← hVe]; rfl)
    rw [show (if w = 0 then drS V s 0 else 0) = 0 by split <;> rfl] at hx
    exact hx
  refine hK (fun q => q == 65) 200 _ _ _ _ ?_
  simp only [↓wp, ↓stp, ilen, lnth, st1, st2, nolong, nohead, rnth, ↓gfX, ↓pfX, gfV, pfV, cpF, cpP, cndZ, ↓tgo, ↓tsw, ↓lsw, ↓ldI, ↓ldA, ↓ldL, ↓stI, ↓stA, ↓stL, ↓bin, ↓binD, ↓binL, ↓binDL, ↓una, ↓acV, ↓acK, ↓acpy, ↓inv, entL, nones, List.length_cons, List.length_nil, List.take, List.drop, List.reverse_cons, List.reverse_nil, List.nil_append, List.cons_append, Option.toList_some, Option.toList_none, Nat.reduceAdd, Nat.reduceSub, Nat.reduceLT, Nat.reduceEqDiff, Fin.isValue, aTL, aSZ, Int.toNat_natCast, hset_same, hset_o, hset_s, hset_row, ne_eq, Nat.reduceBEq, beq_self_eq_true, Fin.val_zero, Fin.val_one, fin0, fin1, fin2, fin3, Nat.le_refl, Nat.reduceLeDiff, Nat.zero_le, Int.reduceAdd, Int.reduceNeg, Int.reduceLE, Int.reduceLT, Int.reduceToNat, Int.reduceMul, Int.cast_ofNat_Int, Nat.reduceMod, ↓reduceIte, if_true, if_false, and_true, true_and, or_true, true_or, false_or, or_false, and_self, not_true_eq_false, not_false_eq_true, Bool.false_eq_true, reduceCtorEq, false_implies, true_implies, implies_true, and_false, false_and, dX8_drawn_0, dX8_drawn_1, dX8_drawn_4, dX8_drawn_7, dX8_drawn_9, dX8_drawn_10, dX8_drawn_11, dX8_drawn_12, dX8_drawn_14, dX8_drawn_17, dX8_drawn_20, dX8_drawn_21, dX8_drawn_22, dX8_drawn_24, dX8_drawn_27, dX8_drawn_30, dX8_drawn_31, dX8_drawn_32, dX8_drawn_33, dX8_drawn_36, dX8_drawn_39, dX8_drawn_41, dX8_drawn_42, dX8_drawn_43, dX8_drawn_46, dX8_drawn_47, dX8_drawn_48, dX8_drawn_51, dX8_drawn_52, dX8_drawn_55, dX8_drawn_56, dX8_drawn_57, dX8_drawn_59, dX8_drawn_60, dX8_drawn_62, dX8_drawn_63, dX8_drawn_65, dX8_drawn_67, dX8_drawn_68, dX8_drawn_71, dX8_drawn_73, dX8_drawn_76, dX8_drawn_77, dX8_drawn_80, dX8_drawn_81, dX8_drawn_83, dX8_drawn_84, dX8_drawn_87, dX8_drawn_89, dX8_drawn_91, dX8_drawn_92, dX8_drawn_95, dX8_drawn_96, dX8_drawn_97, dX8_drawn_98, dX8_drawn_99, dX8_drawn_100, dX8_drawn_101, dX8_drawn_103, dX8_drawn_106, dX8_drawn_107, dX8_drawn_110, dX8_drawn_111, dX8_drawn_112, dX8_drawn_113, dX8_drawn_114, dX8_drawn_117, dX8_drawn_118, dX8_drawn_119, dX8_drawn_122, dX8_drawn_125, dX8_drawn_127, dX8_drawn_128, dX8_drawn_131, dX8_drawn_132, dX8_drawn_134, dX8_drawn_137, dX8_drawn_140, dX8_drawn_141, dX8_drawn_144, dX8_drawn_146, dX8_drawn_149, dX8_drawn_150, dX8_drawn_151, dX8_drawn_154, dX8_drawn_157, cpX8, mT_X8_drawn, SHl_58, SHl_59, SHl_60, SHl_61, SHl_62, SHl_63, SHl_64, SHl_65, SHl_66, SHl_67, SHl_68, SHl_69, SHl_70, SHl_71, SHl_72, SHl_73, SHl_74, SHl_75, S_X8_copies, S_X8_finds, S_X8_in, S_X8_isPiece, S_X8_prints]
  (repeat' (first | apply And.intro | intro _)) <;> first | omega | (refine ⟨93, 93, rfl, rfl, ?_⟩ <;> (repeat' (first | apply And.intro | intro _)) <;> first | omega | (exact main (by omega) (by omega) (by omega) (by omega))) | (repeat (first | rw [if_pos (by omega)] at hq | rw [if_neg (by omega)] at hq)) <;> exact hq
