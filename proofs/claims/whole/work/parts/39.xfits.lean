/-! ===== the class: fits, drawn on the trial ===== -/
theorem hset2 (V : HP) (p k : Nat) (a b : Int) : hset (hset V p k a) p k b = hset V p k b := by
  funext q j
  simp only [hset_at]
  split <;> rfl
theorem hset_id (V : HP) (p k : Nat) : hset V p k (V p k) = V := by
  funext q j
  simp only [hset_at]
  split
  · rename_i h; rw [h.1, h.2]
  · rfl
theorem coOk_v {σ τ : HP} {p : Nat} (h1 : τ p 1 = σ p 1) (h6 : τ (p + 6) = σ (p + 6)) (hv : ∀ c, vC τ p 4 c = vC σ p 4 c ∧ vC τ p 5 c = vC σ p 5 c) (h : coOk σ p) : coOk τ p := by
  intro c j hc hj
  rw [(hv c).2] at hj
  rw [(hv c).1, h6]
  exact h c j (by omega) hj
def S_X7_fittingSignatures : MSpec := fun a σ Q => match a with
  | [.inr (.inl 0), .inl r, .inl k] => xPre σ ∧ 1 ≤ σ 7 1 ∧ (0 ≤ r ∧ r < 8) ∧ (0 ≤ k ∧ k ≤ σ 7 2) ∧ (∀ j, R32 (σ 2 j)) ∧ ∀ τ, xS σ τ → Q (some (.inl (orF (fun v => fitF (hset (vC σ 7) 0 0 (v : Int)) (fun j => σ 2 ((40 * r).toNat + j)) k.toNat) 0 15))) τ
  | _ => False
theorem rc_X7_fittingSignatures : ∀ a σ Q, S_X7_fittingSignatures a σ Q → ∃ (p : Nat) (r : List AV), a = .inr (.inl p) :: r ∧ p < 76 ∧ (SH p).1 = 4 ∧ (SH p).2.1 = 6 := by
  intro a σ Q h
  unfold S_X7_fittingSignatures at h
  split at h
  · exact ⟨0, _, rfl, by decide, rfl, rfl⟩
  · exact h.elim
def mT_X7_fittingSignatures (i : Nat) : Option (Nat × Bool × MSpec) := match i with
  | 134 => some (2, true, S_X4_becomeLike)
  | 319 => some (4, true, S_X7_bitIfLettersFit)
  | _ => none
theorem mT_X7_fittingSignatures_ok {l : Launch} {n : Nat} (hn : 5 ≤ n) : ∀ i e, mT_X7_fittingSignatures i = some e → mV l (rmOf n) RX7 i e := by
  intro i e h
  unfold mT_X7_fittingSignatures at h
  split at h
  · cases h; exact mvI (lv := 0) (ci := 3) (T := TX4) (N := 9) mw_X4_becomeLike rfl (by omega) (by decide) (by decide +kernel) (gtm 413 (by decide +kernel) (by decide +kernel)) rc_X4_becomeLike ok_X4_becomeLike
  · cases h; exact mvI (lv := 4) (ci := 6) (T := TX7) (N := 15) mw_X7_bitIfLettersFit rfl (by omega) (by decide) (by decide +kernel) (gtm 649 (by decide +kernel) (by decide +kernel)) rc_X7_bitIfLettersFit ok_X7_bitIfLettersFit
  · cases h
set_option maxRecDepth 100000 in
set_option maxHeartbeats 16000000 in
theorem ok_X7_fittingSignatures : ∀ l n, 5 ≤ n → ∀ a σ Q, S_X7_fittingSignatures a σ Q → AM l n yX7_fittingSignatures cX7_fittingSignatures 5 (some .int) a σ Q := by
  intro l n hn a σ Q hS
  unfold S_X7_fittingSignatures at hS
  split at hS
  rotate_left
  · exact hS.elim
  rename_i r k
  obtain ⟨⟨hV, hco, hc⟩, n1, r1, k1, hJ, hq⟩ := hS
  obtain ⟨V, hVe⟩ : ∃ V, V = vC σ 7 := ⟨_, rfl⟩
  simp only [← hVe] at hq hV
  obtain ⟨v0, v1, v2⟩ := vC_0 σ 7
  rw [← hVe] at v0 v1 v2
  obtain ⟨o1, o2, o3, -, oc, on⟩ := id hV
  skip
  skip
  skip
  generalize hf : (fun j => σ 2 ((40 * r).toNat + j)) = f at hq
  refine am_ofF 1 cpX7 mT_X7_fittingSignatures (plainFor_of_name (by decide +kernel)) (rfl) (Nat.le_of_ble_eq_true rfl) (cpX7_ok) (mT_X7_fittingSignatures_ok hn) (fun K hK => ?_)
  have loop : ∀ (d t : Nat), t + d = 15 → ∀ τ, only σ τ (fun q => 22 ≤ q ∧ q ≤ 36) → coOk τ 22 → (∃ g, vC τ 22 = hset V 0 0 g) → K 16 [some (.inr (.inl 0)), some (.inl r), some (.inl k), some (.inl (orF (fun v => fitF (hset V 0 0 (v : Int)) f k.toNat) 0 t)), some (.inl (((0 + t : Nat)) : Int))] [] τ := by
    intro d
    induction d with
    | zero =>
      intro t ht τ ho hct hg
      refine hK (fun q => q == 16) 100 _ _ _ _ ?_
      simp only [↓wp, ↓stp, ilen, lnth, st1, st2, nolong, nohead, rnth, ↓gfX, ↓pfX, gfV, pfV, cpF, cpP, cndZ, ↓tgo, ↓tsw, ↓lsw, ↓ldI, ↓ldA, ↓ldL, ↓stI, ↓stA, ↓stL, ↓bin, ↓binD, ↓binL, ↓binDL, ↓una, ↓acV, ↓acK, ↓acpy, ↓inv, entL, nones, List.length_cons, List.length_nil, List.take, List.drop, List.reverse_cons, List.reverse_nil, List.nil_append, List.cons_append, Option.toList_some, Option.toList_none, Nat.reduceAdd, Nat.reduceSub, Nat.reduceLT, Nat.reduceEqDiff, Fin.isValue, aTL, aSZ, Int.toNat_natCast, hset_same, hset_o, hset_s, hset_row, ne_eq, Nat.reduceBEq, beq_self_eq_true, Fin.val_zero, Fin.val_one, fin0, fin1, fin2, fin3, Nat.le_refl, Nat.reduceLeDiff, Nat.zero_le, Int.reduceAdd, Int.reduceNeg, Int.reduceLE, Int.reduceLT, Int.reduceToNat, Int.reduceMul, Int.cast_ofNat_Int, Nat.reduceMod, ↓reduceIte, if_true, if_false, and_true, true_and, or_true, true_or, false_or, or_false, and_self, not_true_eq_false, not_false_eq_true, Bool.false_eq_true, reduceCtorEq, false_implies, true_implies, implies_true, and_false, false_and, dX7_fittingSignatures_0, dX7_fittingSignatures_1, dX7_fittingSignatures_2, dX7_fittingSignatures_3, dX7_fittingSignatures_6, dX7_fittingSignatures_7, dX7_fittingSignatures_10, dX7_fittingSignatures_13, dX7_fittingSignatures_14, dX7_fittingSignatures_16, dX7_fittingSignatures_18, dX7_fittingSignatures_20, dX7_fittingSignatures_23, dX7_fittingSignatures_24, dX7_fittingSignatures_27, dX7_fittingSignatures_29, dX7_fittingSignatures_32, dX7_fittingSignatures_33, dX7_fittingSignatures_34, dX7_fittingSignatures_36, dX7_fittingSignatures_37, dX7_fittingSignatures_38, dX7_fittingSignatures_41, dX7_fittingSignatures_42, dX7_fittingSignatures_43, dX7_fittingSignatures_46, dX7_fittingSignatures_49, dX7_fittingSignatures_50, cpX7, mT_X7_fittingSignatures, SHl_0, SHl_1, SHl_2, SHl_3, SHl_4, SHl_5, SHl_6, SHl_7, SHl_8, SHl_9, SHl_10, SHl_11, SHl_12, SHl_13, SHl_14, SHl_15, SHl_16, SHl_17, SHl_18, SHl_19, SHl_20, SHl_21, SHl_22, SHl_23, SHl_24, SHl_25, SHl_26, SHl_27, SHl_28, SHl_29, SHl_30, SHl_31, SHl_32, SHl_33, SHl_34, SHl_35, SHl_36, SHl_37, SHl_38, SHl_39, SHl_40, SHl_41, SHl_42, SHl_43, SHl_44, SHl_45, SHl_46, SHl_47, SHl_48, SHl_49, SHl_50, SHl_51, SHl_52, SHl_53, SHl_54, SHl_55, SHl_56, SHl_57, S_X4_becomeLike, S_X7_bitIfLettersFit]
      have hq' := hq τ (xS_trial ho hc)
      rw [show 15 = t by omega] at hq'
      exact ⟨⟨by omega, by omega⟩, ⟨by omega, by omega⟩, fun _ => hq', fun q => by omega⟩
    | succ d ih =>
      intro t ht τ ho hct hg
      obtain ⟨g, hg⟩ := hg
      obtain ⟨ρ, hρ⟩ : ∃ ρ, ρ = hset τ 22 0 (((0 + t : Nat)) : Int) := ⟨_, rfl⟩
      obtain ⟨u0, u1, u2⟩ := vC_0 τ 22
      rw [hg] at u0 u1 u2
      rw [hset_s (by decide)] at u1 u2
      have hvr : vC ρ 22 = hset V 0 0 (((0 + t : Nat)) : Int) := by
        rw [hρ, vC_g, hg, hset2]
      have okr : okV (vC ρ 22) := by rw [hvr]; exact okV_g hV (by omega)
      obtain ⟨w0, w1, w2⟩ := vC_0 ρ 22
      rw [hvr] at w0 w1 w2
      rw [hset_s (by decide)] at w1 w2
      have cor : coOk ρ 22 := by
        refine coOk_v (by omega) (by rw [hρ, hset_row (by decide)]) (fun x => ?_) hct
        rw [hvr, hg, hset_o (by decide), hset_o (by decide), hset_o (by decide), hset_o (by decide)]
        exact ⟨rfl, rfl⟩
      have hor : only σ ρ (fun q => 22 ≤ q ∧ q ≤ 36) := by
        rw [hρ]
        exact only_set ho (by omega)
      have e2 : τ 2 = σ 2 := ho 2 (by omega)
      have hf2 : (fun j => τ 2 ((40 * r).toNat + j)) = f := by rw [e2]; exact hf
      refine hK (fun q => q == 16) 100 _ _ _ _ ?_
      simp only [↓wp, ↓stp, ilen, lnth, st1, st2, nolong, nohead, rnth, ↓gfX, ↓pfX, gfV, pfV, cpF, cpP, cndZ, ↓tgo, ↓tsw, ↓lsw, ↓ldI, ↓ldA, ↓ldL, ↓stI, ↓stA, ↓stL, ↓bin, ↓binD, ↓binL, ↓binDL, ↓una, ↓acV, ↓acK, ↓acpy, ↓inv, entL, nones, List.length_cons, List.length_nil, List.take, List.drop, List.reverse_cons, List.reverse_nil, List.nil_append, List.cons_append, Option.toList_some, Option.toList_none, Nat.reduceAdd, Nat.reduceSub, Nat.reduceLT, Nat.reduceEqDiff, Fin.isValue, aTL, aSZ, Int.toNat_natCast, hset_same, hset_o, hset_s, hset_row, ne_eq, Nat.reduceBEq, beq_self_eq_true, Fin.val_zero, Fin.val_one, fin0, fin1, fin2, fin3, Nat.le_refl, Nat.reduceLeDiff, Nat.zero_le, Int.reduceAdd, Int.reduceNeg, Int.reduceLE, Int.reduceLT, Int.reduceToNat, Int.reduceMul, Int.cast_ofNat_Int, Nat.reduceMod, ↓reduceIte, if_true, if_false, and_true, true_and, or_true, true_or, false_or, or_false, and_self, not_true_eq_false, not_false_eq_true, Bool.false_eq_true, reduceCtorEq, false_implies, true_implies, implies_true, and_false, false_and, dX7_fittingSignatures_0, dX7_fittingSignatures_1, dX7_fittingSignatures_2, dX7_fittingSignatures_3, dX7_fittingSignatures_6, dX7_fittingSignatures_7, dX7_fittingSignatures_10, dX7_fittingSignatures_13, dX7_fittingSignatures_14, dX7_fittingSignatures_16, dX7_fittingSignatures_18, dX7_fittingSignatures_20, dX7_fittingSignatures_23, dX7_fittingSignatures_24, dX7_fittingSignatures_27, dX7_fittingSignatures_29, dX7_fittingSignatures_32, dX7_fittingSignatures_33, dX7_fittingSignatures_34, dX7_fittingSignatures_36, dX7_fittingSignatures_37, dX7_fittingSignatures_38, dX7_fittingSignatures_41, dX7_fittingSignatures_42, dX7_fittingSignatures_43, dX7_fittingSignatures_46, dX7_fittingSignatures_49, dX7_fittingSignatures_50, cpX7, mT_X7_fittingSignatures, SHl_0, SHl_1, SHl_2, SHl_3, SHl_4, SHl_5, SHl_6, SHl_7, SHl_8, SHl_9, SHl_10, SHl_11, SHl_12, SHl_13, SHl_14, SHl_15, SHl_16, SHl_17, SHl_18, SHl_19, SHl_20, SHl_21, SHl_22, SHl_23, SHl_24, SHl_25, SHl_26, SHl_27, SHl_28, SHl_29, SHl_30, SHl_31, SHl_32, SHl_33, SHl_34, SHl_35, SHl_36, SHl_37, SHl_38, SHl_39, SHl_40, SHl_41, SHl_42, SHl_43, SHl_44, SHl_45, SHl_46, SHl_47, SHl_48, SHl_49, SHl_50, SHl_51, SHl_52, SHl_53, SHl_54, SHl_55, SHl_56, SHl_57, S_X4_becomeLike, S_X7_bitIfLettersFit]
      rw [← hρ]
      have hx : ∀ x, only ρ x (fun q => 29 ≤ q ∧ q ≤ 36) → K 16 [some (.inr (.inl 0)), some (.inl r), some (.inl k), some (.inl (zor (orF (fun v => fitF (hset V 0 0 (v : Int)) f k.toNat) 0 t) (if fitF (vC ρ 22) (fun j => τ 2 ((40 * r).toNat + j)) k.toNat = 1 then zshl 1 (((0 + t : Nat)) : Int) else 0))), some (.inl ((((0 + t : Nat)) : Int) + 1))] [] x := by
        intro x hx
        rw [hvr, hf2]
        have := ih (t + 1) (by omega) x (fun q hqq => by rw [hx q (by omega)]; exact hor q hqq) (coOk_only hx (fun i hi => by omega) cor) ⟨_, (vC_only hx (fun i hi => by omega)).trans hvr⟩
        skip
        exact this
      (repeat' (first | exact okr | exact cor | exact hx _ ‹_› | (intro j; rw [e2]; exact hJ j) | apply And.intro | intro _)) <;> omega
  refine hK (fun q => q == 16) 100 _ _ _ _ ?_
  simp only [↓wp, ↓stp, ilen, lnth, st1, st2, nolong, nohead, rnth, ↓gfX, ↓pfX, gfV, pfV, cpF, cpP, cndZ, ↓tgo, ↓tsw, ↓lsw, ↓ldI, ↓ldA, ↓ldL, ↓stI, ↓stA, ↓stL, ↓bin, ↓binD, ↓binL, ↓binDL, ↓una, ↓acV, ↓acK, ↓acpy, ↓inv, entL, nones, List.length_cons, List.length_nil, List.take, List.drop, List.reverse_cons, List.reverse_nil, List.nil_append, List.cons_append, Option.toList_some, Option.toList_none, Nat.reduceAdd, Nat.reduceSub, Nat.reduceLT, Nat.reduceEqDiff, Fin.isValue, aTL, aSZ, Int.toNat_natCast, hset_same, hset_o, hset_s, hset_row, ne_eq, Nat.reduceBEq, beq_self_eq_true, Fin.val_zero, Fin.val_one, fin0, fin1, fin2, fin3, Nat.le_refl, Nat.reduceLeDiff, Nat.zero_le, Int.reduceAdd, Int.reduceNeg, Int.reduceLE, Int.reduceLT, Int.reduceToNat, Int.reduceMul, Int.cast_ofNat_Int, Nat.reduceMod, ↓reduceIte, if_true, if_false, and_true, true_and, or_true, true_or, false_or, or_false, and_self, not_true_eq_false, not_false_eq_true, Bool.false_eq_true, reduceCtorEq, false_implies, true_implies, implies_true, and_false, false_and, dX7_fittingSignatures_0, dX7_fittingSignatures_1, dX7_fittingSignatures_2, dX7_fittingSignatures_3, dX7_fittingSignatures_6, dX7_fittingSignatures_7, dX7_fittingSignatures_10, dX7_fittingSignatures_13, dX7_fittingSignatures_14, dX7_fittingSignatures_16, dX7_fittingSignatures_18, dX7_fittingSignatures_20, dX7_fittingSignatures_23, dX7_fittingSignatures_24, dX7_fittingSignatures_27, dX7_fittingSignatures_29, dX7_fittingSignatures_32, dX7_fittingSignatures_33, dX7_fittingSignatures_34, dX7_fittingSignatures_36, dX7_fittingSignatures_37, dX7_fittingSignatures_38, dX7_fittingSignatures_41, dX7_fittingSignatures_42, dX7_fittingSignatures_43, dX7_fittingSignatures_46, dX7_fittingSignatures_49, dX7_fittingSignatures_50, cpX7, mT_X7_fittingSignatures, SHl_0, SHl_1, SHl_2, SHl_3, SHl_4, SHl_5, SHl_6, SHl_7, SHl_8, SHl_9, SHl_10, SHl_11, SHl_12, SHl_13, SHl_14, SHl_15, SHl_16, SHl_17, SHl_18, SHl_19, SHl_20, SHl_21, SHl_22, SHl_23, SHl_24, SHl_25, SHl_26, SHl_27, SHl_28, SHl_29, SHl_30, SHl_31, SHl_32, SHl_33, SHl_34, SHl_35, SHl_36, SHl_37, SHl_38, SHl_39, SHl_40, SHl_41, SHl_42, SHl_43, SHl_44, SHl_45, SHl_46, SHl_47, SHl_48, SHl_49, SHl_50, SHl_51, SHl_52, SHl_53, SHl_54, SHl_55, SHl_56, SHl_57, S_X4_becomeLike, S_X7_bitIfLettersFit]
  refine ⟨isPc_22, isPc_7, by rw [← hVe]; exact hV, fun τ h1 h2 h3 => ?_⟩
  rw [← hVe] at h2
  exact loop 15 0 (by omega) τ (fun q hqq => h1 q (by unfold inP; omega)) (h3 hco) ⟨V 0 0, by rw [h2, hset_id]⟩
def S_X7_fittingKinds : MSpec := fun a σ Q => match a with
  | [.inr (.inl 0), .inl c, .inl r, .inl k] => xPre σ ∧ 1 ≤ σ 7 1 ∧ (0 ≤ c ∧ c < σ 7 1) ∧ (0 ≤ r ∧ r < 8) ∧ (0 ≤ k ∧ k ≤ σ 7 2) ∧ (∀ j, R32 (σ 2 j)) ∧ ∀ τ, xS σ τ → Q (some (.inl (orF (fun v => fitF (hset (vC σ 7) 1 c.toNat (v : Int)) (fun j => σ 2 ((40 * r).toNat + j)) k.toNat) 1 5))) τ
  | _ => False
theorem rc_X7_fittingKinds : ∀ a σ Q, S_X7_fittingKinds a σ Q → ∃ (p : Nat) (r : List AV), a = .inr (.inl p) :: r ∧ p < 76 ∧ (SH p).1 = 4 ∧ (SH p).2.1 = 6 := by
  intro a σ Q h
  unfold S_X7_fittingKinds at h
  split at h
  · exact ⟨0, _, rfl, by decide, rfl, rfl⟩
  · exact h.elim
def mT_X7_fittingKinds (i : Nat) : Option (Nat × Bool × MSpec) := match i with
  | 134 => some (2, true, S_X4_becomeLike)
  | 319 => some (4, true, S_X7_bitIfLettersFit)
  | _ => none
theorem mT_X7_fittingKinds_ok {l : Launch} {n : Nat} (hn : 5 ≤ n) : ∀ i e, mT_X7_fittingKinds i = some e → mV l (rmOf n) RX7 i e := by
  intro i e h
  unfold mT_X7_fittingKinds at h
  split at h
  · cases h; exact mvI (lv := 0) (ci := 3) (T := TX4) (N := 9) mw_X4_becomeLike rfl (by omega) (by decide) (by decide +kernel) (gtm 413 (by decide +kernel) (by decide +kernel)) rc_X4_becomeLike ok_X4_becomeLike
  · cases h; exact mvI (lv := 4) (ci := 6) (T := TX7) (N := 15) mw_X7_bitIfLettersFit rfl (by omega) (by decide) (by decide +kernel) (gtm 649 (by decide +kernel) (by decide +kernel)) rc_X7_bitIfLettersFit ok_X7_bitIfLettersFit
  · cases h
set_option maxRecDepth 100000 in
set_option maxHeartbeats 16000000 in
theorem ok_X7_fittingKinds : ∀ l n, 5 ≤ n → ∀ a σ Q, S_X7_fittingKinds a σ Q → AM l n yX7_fittingKinds cX7_fittingKinds 6 (some .int) a σ Q := by
  intro l n hn a σ Q hS
  unfold S_X7_fittingKinds at hS
  split at hS
  rotate_left
  · exact hS.elim
  rename_i c r k
  obtain ⟨⟨hV, hco, hc⟩, n1, c1, r1, k1, hJ, hq⟩ := hS
  obtain ⟨V, hVe⟩ : ∃ V, V = vC σ 7 := ⟨_, rfl⟩
  simp only [← hVe] at hq hV
  obtain ⟨v0, v1, v2⟩ := vC_0 σ 7
  rw [← hVe] at v0 v1 v2
  obtain ⟨o1, o2, o3, -, oc, on⟩ := id hV
  obtain ⟨C, hC⟩ : ∃ C : Nat, c = (C : Int) := ⟨c.toNat, by omega⟩
  rw [hC] at hq
  simp only [Int.toNat_natCast] at hq
  generalize hf : (fun j => σ 2 ((40 * r).toNat + j)) = f at hq
  refine am_ofF 1 cpX7 mT_X7_fittingKinds (plainFor_of_name (by decide +kernel)) (rfl) (Nat.le_of_ble_eq_true rfl) (cpX7_ok) (mT_X7_fittingKinds_ok hn) (fun K hK => ?_)
  have loop : ∀ (d t : Nat), t + d = 5 → ∀ τ, only σ τ (fun q => 22 ≤ q ∧ q ≤ 36) → coOk τ 22 → (∃ g, vC τ 22 = hset V 1 C g) → K 17 [some (.inr (.inl 0)), some (.inl c), some (.inl r), some (.inl k), some (.inl (orF (fun v => fitF (hset V 1 C (v : Int)) f k.toNat) 1 t)), some (.inl (((1 + t : Nat)) : Int))] [] τ := by
    intro d
    induction d with
    | zero =>
      intro t ht τ ho hct hg
      refine hK (fun q => q == 17) 100 _ _ _ _ ?_
      simp only [↓wp, ↓stp, ilen, lnth, st1, st2, nolong, nohead, rnth, ↓gfX, ↓pfX, gfV, pfV, cpF, cpP, cndZ, ↓tgo, ↓tsw, ↓lsw, ↓ldI, ↓ldA, ↓ldL, ↓stI, ↓stA, ↓stL, ↓bin, ↓binD, ↓binL, ↓binDL, ↓una, ↓acV, ↓acK, ↓acpy, ↓inv, entL, nones, List.length_cons, List.length_nil, List.take, List.drop, List.reverse_cons, List.reverse_nil, List.nil_append, List.cons_append, Option.toList_some, Option.toList_none, Nat.reduceAdd, Nat.reduceSub, Nat.reduceLT, Nat.reduceEqDiff, Fin.isValue, aTL, aSZ, Int.toNat_natCast, hset_same, hset_o, hset_s, hset_row, ne_eq, Nat.reduceBEq, beq_self_eq_true, Fin.val_zero, Fin.val_one, fin0, fin1, fin2, fin3, Nat.le_refl, Nat.reduceLeDiff, Nat.zero_le, Int.reduceAdd, Int.reduceNeg, Int.reduceLE, Int.reduceLT, Int.reduceToNat, Int.reduceMul, Int.cast_ofNat_Int, Nat.reduceMod, ↓reduceIte, if_true, if_false, and_true, true_and, or_true, true_or, false_or, or_false, and_self, not_true_eq_false, not_false_eq_true, Bool.false_eq_true, reduceCtorEq, false_implies, true_implies, implies_true, and_false, false_and, dX7_fittingKinds_0, dX7_fittingKinds_1, dX7_fittingKinds_3, dX7_fittingKinds_4, dX7_fittingKinds_7, dX7_fittingKinds_8, dX7_fittingKinds_11, dX7_fittingKinds_14, dX7_fittingKinds_15, dX7_fittingKinds_17, dX7_fittingKinds_19, dX7_fittingKinds_20, dX7_fittingKinds_23, dX7_fittingKinds_24, dX7_fittingKinds_27, dX7_fittingKinds_30, dX7_fittingKinds_31, dX7_fittingKinds_33, dX7_fittingKinds_34, dX7_fittingKinds_36, dX7_fittingKinds_37, dX7_fittingKinds_39, dX7_fittingKinds_40, dX7_fittingKinds_41, dX7_fittingKinds_44, dX7_fittingKinds_45, dX7_fittingKinds_47, dX7_fittingKinds_50, dX7_fittingKinds_53, dX7_fittingKinds_55, cpX7, mT_X7_fittingKinds, SHl_0, SHl_1, SHl_2, SHl_3, SHl_4, SHl_5, SHl_6, SHl_7, SHl_8, SHl_9, SHl_10, SHl_11, SHl_12, SHl_13, SHl_14, SHl_15, SHl_16, SHl_17, SHl_18, SHl_19, SHl_20, SHl_21, SHl_22, SHl_23, SHl_24, SHl_25, SHl_26, SHl_27, SHl_28, SHl_29, SHl_30, SHl_31, SHl_32, SHl_33, SHl_34, SHl_35, SHl_36, SHl_37, SHl_38, SHl_39, SHl_40, SHl_41, SHl_42, SHl_43, SHl_44, SHl_45, SHl_46, SHl_47, SHl_48, SHl_49, SHl_50, SHl_51, SHl_52, SHl_53, SHl_54, SHl_55, SHl_56, SHl_57, S_X4_becomeLike, S_X7_bitIfLettersFit]
      have hq' := hq τ (xS_trial ho hc)
      rw [show 5 = t by omega] at hq'
      exact ⟨⟨by omega, by omega⟩, ⟨by omega, by omega⟩, fun _ => hq', fun q => by omega⟩
    | succ d ih =>
      intro t ht τ ho hct hg
      obtain ⟨g, hg⟩ := hg
      obtain ⟨ρ, hρ⟩ : ∃ ρ, ρ = hset τ 23 C (((1 + t : Nat)) : Int) := ⟨_, rfl⟩
      obtain ⟨u0, u1, u2⟩ := vC_0 τ 22
      rw [hg] at u0 u1 u2
      rw [hset_o (by decide)] at u0 u1 u2
      have hvr : vC ρ 22 = hset V 1 C (((1 + t : Nat)) : Int) := by
        rw [hρ, show (23 : Nat) = 22 + 1 from rfl, vC_d (by omega), hg, hset2]
      have okr : okV (vC ρ 22) := by rw [hvr]; exact okV_d hV (by omega)
      obtain ⟨w0, w1, w2⟩ := vC_0 ρ 22
      rw [hvr] at w0 w1 w2
      rw [hset_o (by decide)] at w0 w1 w2
      have cor : coOk ρ 22 := by
        refine coOk_v (by omega) (by rw [hρ, hset_row (by decide)]) (fun x => ?_) hct
        rw [hvr, hg, hset_o (by decide), hset_o (by decide), hset_o (by decide), hset_o (by decide)]
        exact ⟨rfl, rfl⟩
      have hor : only σ ρ (fun q => 22 ≤ q ∧ q ≤ 36) := by
        rw [hρ]
        exact only_set ho (by omega)
      have e2 : τ 2 = σ 2 := ho 2 (by omega)
      have hf2 : (fun j => τ 2 ((40 * r).toNat + j)) = f := by rw [e2]; exact hf
      refine hK (fun q => q == 17) 100 _ _ _ _ ?_
      simp only [↓wp, ↓stp, ilen, lnth, st1, st2, nolong, nohead, rnth, ↓gfX, ↓pfX, gfV, pfV, cpF, cpP, cndZ, ↓tgo, ↓tsw, ↓lsw, ↓ldI, ↓ldA, ↓ldL, ↓stI, ↓stA, ↓stL, ↓bin, ↓binD, ↓binL, ↓binDL, ↓una, ↓acV, ↓acK, ↓acpy, ↓inv, entL, nones, List.length_cons, List.length_nil, List.take, List.drop, List.reverse_cons, List.reverse_nil, List.nil_append, List.cons_append, Option.toList_some, Option.toList_none, Nat.reduceAdd, Nat.reduceSub, Nat.reduceLT, Nat.reduceEqDiff, Fin.isValue, aTL, aSZ, Int.toNat_natCast, hset_same, hset_o, hset_s, hset_row, ne_eq, Nat.reduceBEq, beq_self_eq_true, Fin.val_zero, Fin.val_one, fin0, fin1, fin2, fin3, Nat.le_refl, Nat.reduceLeDiff, Nat.zero_le, Int.reduceAdd, Int.reduceNeg, Int.reduceLE, Int.reduceLT, Int.reduceToNat, Int.reduceMul, Int.cast_ofNat_Int, Nat.reduceMod, ↓reduceIte, if_true, if_false, and_true, true_and, or_true, true_or, false_or, or_false, and_self, not_true_eq_false, not_false_eq_true, Bool.false_eq_true, reduceCtorEq, false_implies, true_implies, implies_true, and_false, false_and, dX7_fittingKinds_0, dX7_fittingKinds_1, dX7_fittingKinds_3, dX7_fittingKinds_4, dX7_fittingKinds_7, dX7_fittingKinds_8, dX7_fittingKinds_11, dX7_fittingKinds_14, dX7_fittingKinds_15, dX7_fittingKinds_17, dX7_fittingKinds_19, dX7_fittingKinds_20, dX7_fittingKinds_23, dX7_fittingKinds_24, dX7_fittingKinds_27, dX7_fittingKinds_30, dX7_fittingKinds_31, dX7_fittingKinds_33, dX7_fittingKinds_34, dX7_fittingKinds_36, dX7_fittingKinds_37, dX7_fittingKinds_39, dX7_fittingKinds_40, dX7_fittingKinds_41, dX7_fittingKinds_44, dX7_fittingKinds_45, dX7_fittingKinds_47, dX7_fittingKinds_50, dX7_fittingKinds_53, dX7_fittingKinds_55, cpX7, mT_X7_fittingKinds, SHl_0, SHl_1, SHl_2, SHl_3, SHl_4, SHl_5, SHl_6, SHl_7, SHl_8, SHl_9, SHl_10, SHl_11, SHl_12, SHl_13, SHl_14, SHl_15, SHl_16, SHl_17, SHl_18, SHl_19, SHl_20, SHl_21, SHl_22, SHl_23, SHl_24, SHl_25, SHl_26, SHl_27, SHl_28, SHl_29, SHl_30, SHl_31, SHl_32, SHl_33, SHl_34, SHl_35, SHl_36, SHl_37, SHl_38, SHl_39, SHl_40, SHl_41, SHl_42, SHl_43, SHl_44, SHl_45, SHl_46, SHl_47, SHl_48, SHl_49, SHl_50, SHl_51, SHl_52, SHl_53, SHl_54, SHl_55, SHl_56, SHl_57, S_X4_becomeLike, S_X7_bitIfLettersFit]
      rw [hC, Int.toNat_natCast, ← hρ]
      have hx : ∀ x, only ρ x (fun q => 29 ≤ q ∧ q ≤ 36) → K 17 [some (.inr (.inl 0)), some (.inl (C : Int)), some (.inl r), some (.inl k), some (.inl (zor (orF (fun v => fitF (hset V 1 C (v : Int)) f k.toNat) 1 t) (if fitF (vC ρ 22) (fun j => τ 2 ((40 * r).toNat + j)) k.toNat = 1 then zshl 1 (((1 + t : Nat)) : Int) else 0))), some (.inl ((((1 + t : Nat)) : Int) + 1))] [] x := by
        intro x hx
        rw [hvr, hf2]
        have := ih (t + 1) (by omega) x (fun q hqq => by rw [hx q (by omega)]; exact hor q hqq) (coOk_only hx (fun i hi => by omega) cor) ⟨_, (vC_only hx (fun i hi => by omega)).trans hvr⟩
        rw [hC] at this
        exact this
      (repeat' (first | exact okr | exact cor | exact hx _ ‹_› | (intro j; rw [e2]; exact hJ j) | apply And.intro | intro _)) <;> omega
  refine hK (fun q => q == 17) 100 _ _ _ _ ?_
  simp only [↓wp, ↓stp, ilen, lnth, st1, st2, nolong, nohead, rnth, ↓gfX, ↓pfX, gfV, pfV, cpF, cpP, cndZ, ↓tgo, ↓tsw, ↓lsw, ↓ldI, ↓ldA, ↓ldL, ↓stI, ↓stA, ↓stL, ↓bin, ↓binD, ↓binL, ↓binDL, ↓una, ↓acV, ↓acK, ↓acpy, ↓inv, entL, nones, List.length_cons, List.length_nil, List.take, List.drop, List.reverse_cons, List.reverse_nil, List.nil_append, List.cons_append, Option.toList_some, Option.toList_none, Nat.reduceAdd, Nat.reduceSub, Nat.reduceLT, Nat.reduceEqDiff, Fin.isValue, aTL, aSZ, Int.toNat_natCast, hset_same, hset_o, hset_s, hset_row, ne_eq, Nat.reduceBEq, beq_self_eq_true, Fin.val_zero, Fin.val_one, fin0, fin1, fin2, fin3, Nat.le_refl, Nat.reduceLeDiff, Nat.zero_le, Int.reduceAdd, Int.reduceNeg, Int.reduceLE, Int.reduceLT, Int.reduceToNat, Int.reduceMul, Int.cast_ofNat_Int, Nat.reduceMod, ↓reduceIte, if_true, if_false, and_true, true_and, or_true, true_or, false_or, or_false, and_self, not_true_eq_false, not_false_eq_true, Bool.false_eq_true, reduceCtorEq, false_implies, true_implies, implies_true, and_false, false_and, dX7_fittingKinds_0, dX7_fittingKinds_1, dX7_fittingKinds_3, dX7_fittingKinds_4, dX7_fittingKinds_7, dX7_fittingKinds_8, dX7_fittingKinds_11, dX7_fittingKinds_14, dX7_fittingKinds_15, dX7_fittingKinds_17, dX7_fittingKinds_19, dX7_fittingKinds_20, dX7_fittingKinds_23, dX7_fittingKinds_24, dX7_fittingKinds_27, dX7_fittingKinds_30, dX7_fittingKinds_31, dX7_fittingKinds_33, dX7_fittingKinds_34, dX7_fittingKinds_36, dX7_fittingKinds_37, dX7_fittingKinds_39, dX7_fittingKinds_40, dX7_fittingKinds_41, dX7_fittingKinds_44, dX7_fittingKinds_45, dX7_fittingKinds_47, dX7_fittingKinds_50, dX7_fittingKinds_53, dX7_fittingKinds_55, cpX7, mT_X7_fittingKinds, SHl_0, SHl_1, SHl_2, SHl_3, SHl_4, SHl_5, SHl_6, SHl_7, SHl_8, SHl_9, SHl_10, SHl_11, SHl_12, SHl_13, SHl_14, SHl_15, SHl_16, SHl_17, SHl_18, SHl_19, SHl_20, SHl_21, SHl_22, SHl_23, SHl_24, SHl_25, SHl_26, SHl_27, SHl_28, SHl_29, SHl_30, SHl_31, SHl_32, SHl_33, SHl_34, SHl_35, SHl_36, SHl_37, SHl_38, SHl_39, SHl_40, SHl_41, SHl_42, SHl_43, SHl_44, SHl_45, SHl_46, SHl_47, SHl_48, SHl_49, SHl_50, SHl_51, SHl_52, SHl_53, SHl_54, SHl_55, SHl_56, SHl_57, S_X4_becomeLike, S_X7_bitIfLettersFit]
  refine ⟨isPc_22, isPc_7, by rw [← hVe]; exact hV, fun τ h1 h2 h3 => ?_⟩
  rw [← hVe] at h2
  exact loop 5 0 (by omega) τ (fun q hqq => h1 q (by unfold inP; omega)) (h3 hco) ⟨V 1 C, by rw [h2, hset_id]⟩
def S_X7_fittingKeys : MSpec := fun a σ Q => match a with
  | [.inr (.inl 0), .inl c, .inl r, .inl k] => xPre σ ∧ 1 ≤ σ 7 1 ∧ (0 ≤ c ∧ c < σ 7 2) ∧ (0 ≤ r ∧ r < 8) ∧ (0 ≤ k ∧ k ≤ σ 7 2) ∧ (∀ j, R32 (σ 2 j)) ∧ ∀ τ, xS σ τ → Q (some (.inl (orF (fun v => fitF (hset (vC σ 7) 6 c.toNat (v : Int)) (fun j => σ 2 ((40 * r).toNat + j)) k.toNat) 0 12))) τ
  | _ => False
theorem rc_X7_fittingKeys : ∀ a σ Q, S_X7_fittingKeys a σ Q → ∃ (p : Nat) (r : List AV), a = .inr (.inl p) :: r ∧ p < 76 ∧ (SH p).1 = 4 ∧ (SH p).2.1 = 6 := by
  intro a σ Q h
  unfold S_X7_fittingKeys at h
  split at h
  · exact ⟨0, _, rfl, by decide, rfl, rfl⟩
  · exact h.elim
def mT_X7_fittingKeys (i : Nat) : Option (Nat × Bool × MSpec) := match i with
  | 134 => some (2, true, S_X4_becomeLike)
  | 319 => some (4, true, S_X7_bitIfLettersFit)
  | _ => none
theorem mT_X7_fittingKeys_ok {l : Launch} {n : Nat} (hn : 5 ≤ n) : ∀ i e, mT_X7_fittingKeys i = some e → mV l (rmOf n) RX7 i e := by
  intro i e h
  unfold mT_X7_fittingKeys at h
  split at h
  · cases h; exact mvI (lv := 0) (ci := 3) (T := TX4) (N := 9) mw_X4_becomeLike rfl (by omega) (by decide) (by decide +kernel) (gtm 413 (by decide +kernel) (by decide +kernel)) rc_X4_becomeLike ok_X4_becomeLike
  · cases h; exact mvI (lv := 4) (ci := 6) (T := TX7) (N := 15) mw_X7_bitIfLettersFit rfl (by omega) (by decide) (by decide +kernel) (gtm 649 (by decide +kernel) (by decide +kernel)) rc_X7_bitIfLettersFit ok_X7_bitIfLettersFit
  · cases h
set_option maxRecDepth 100000 in
set_option maxHeartbeats 16000000 in
theorem ok_X7_fittingKeys : ∀ l n, 5 ≤ n → ∀ a σ Q, S_X7_fittingKeys a σ Q → AM l n yX7_fittingKeys cX7_fittingKeys 6 (some .int) a σ Q := by
  intro l n hn a σ Q hS
  unfold S_X7_fittingKeys at hS
  split at hS
  rotate_left
  · exact hS.elim
  rename_i c r k
  obtain ⟨⟨hV, hco, hc⟩, n1, c1, r1, k1, hJ, hq⟩ := hS
  obtain ⟨V, hVe⟩ : ∃ V, V = vC σ 7 := ⟨_, rfl⟩
  simp only [← hVe] at hq hV
  obtain ⟨v0, v1, v2⟩ := vC_0 σ 7
  rw [← hVe] at v0 v1 v2
  obtain ⟨o1, o2, o3, -, oc, on⟩ := id hV
  obtain ⟨C, hC⟩ : ∃ C : Nat, c = (C : Int) := ⟨c.toNat, by omega⟩
  rw [hC] at hq
  simp only [Int.toNat_natCast] at hq
  generalize hf : (fun j => σ 2 ((40 * r).toNat + j)) = f at hq
  refine am_ofF 1 cpX7 mT_X7_fittingKeys (plainFor_of_name (by decide +kernel)) (rfl) (Nat.le_of_ble_eq_true rfl) (cpX7_ok) (mT_X7_fittingKeys_ok hn) (fun K hK => ?_)
  have loop : ∀ (d t : Nat), t + d = 12 → ∀ τ, only σ τ (fun q => 22 ≤ q ∧ q ≤ 36) → coOk τ 22 → (∃ g, vC τ 22 = hset V 6 C g) → K 17 [some (.inr (.inl 0)), some (.inl c), some (.inl r), some (.inl k), some (.inl (orF (fun v => fitF (hset V 6 C (v : Int)) f k.toNat) 0 t)), some (.inl (((0 + t : Nat)) : Int))] [] τ := by
    intro d
    induction d with
    | zero =>
      intro t ht τ ho hct hg
      refine hK (fun q => q == 17) 100 _ _ _ _ ?_
      simp only [↓wp, ↓stp, ilen, lnth, st1, st2, nolong, nohead, rnth, ↓gfX, ↓pfX, gfV, pfV, cpF, cpP, cndZ, ↓tgo, ↓tsw, ↓lsw, ↓ldI, ↓ldA, ↓ldL, ↓stI, ↓stA, ↓stL, ↓bin, ↓binD, ↓binL, ↓binDL, ↓una, ↓acV, ↓acK, ↓acpy, ↓inv, entL, nones, List.length_cons, List.length_nil, List.take, List.drop, List.reverse_cons, List.reverse_nil, List.nil_append, List.cons_append, Option.toList_some, Option.toList_none, Nat.reduceAdd, Nat.reduceSub, Nat.reduceLT, Nat.reduceEqDiff, Fin.isValue, aTL, aSZ, Int.toNat_natCast, hset_same, hset_o, hset_s, hset_row, ne_eq, Nat.reduceBEq, beq_self_eq_true, Fin.val_zero, Fin.val_one, fin0, fin1, fin2, fin3, Nat.le_refl, Nat.reduceLeDiff, Nat.zero_le, Int.reduceAdd, Int.reduceNeg, Int.reduceLE, Int.reduceLT, Int.reduceToNat, Int.reduceMul, Int.cast_ofNat_Int, Nat.reduceMod, ↓reduceIte, if_true, if_false, and_true, true_and, or_true, true_or, false_or, or_false, and_self, not_true_eq_false, not_false_eq_true, Bool.false_eq_true, reduceCtorEq, false_implies, true_implies, implies_true, and_false, false_and, dX7_fittingKeys_0, dX7_fittingKeys_1, dX7_fittingKeys_3, dX7_fittingKeys_4, dX7_fittingKeys_7, dX7_fittingKeys_8, dX7_fittingKeys_11, dX7_fittingKeys_14, dX7_fittingKeys_15, dX7_fittingKeys_17, dX7_fittingKeys_19, dX7_fittingKeys_21, dX7_fittingKeys_24, dX7_fittingKeys_25, dX7_fittingKeys_28, dX7_fittingKeys_31, dX7_fittingKeys_32, dX7_fittingKeys_34, dX7_fittingKeys_35, dX7_fittingKeys_37, dX7_fittingKeys_38, dX7_fittingKeys_40, dX7_fittingKeys_41, dX7_fittingKeys_42, dX7_fittingKeys_45, dX7_fittingKeys_46, dX7_fittingKeys_48, dX7_fittingKeys_51, dX7_fittingKeys_54, dX7_fittingKeys_56, cpX7, mT_X7_fittingKeys, SHl_0, SHl_1, SHl_2, SHl_3, SHl_4, SHl_5, SHl_6, SHl_7, SHl_8, SHl_9, SHl_10, SHl_11, SHl_12, SHl_13, SHl_14, SHl_15, SHl_16, SHl_17, SHl_18, SHl_19, SHl_20, SHl_21, SHl_22, SHl_23, SHl_24, SHl_25, SHl_26, SHl_27, SHl_28, SHl_29, SHl_30, SHl_31, SHl_32, SHl_33, SHl_34, SHl_35, SHl_36, SHl_37, SHl_38, SHl_39, SHl_40, SHl_41, SHl_42, SHl_43, SHl_44, SHl_45, SHl_46, SHl_47, SHl_48, SHl_49, SHl_50, SHl_51, SHl_52, SHl_53, SHl_54, SHl_55, SHl_56, SHl_57, S_X4_becomeLike, S_X7_bitIfLettersFit]
      have hq' := hq τ (xS_trial ho hc)
      rw [show 12 = t by omega] at hq'
      exact ⟨⟨by omega, by omega⟩, ⟨by omega, by omega⟩, fun _ => hq', fun q => by omega⟩
    | succ d ih =>
      intro t ht τ ho hct hg
      obtain ⟨g, hg⟩ := hg
      obtain ⟨ρ, hρ⟩ : ∃ ρ, ρ = hset τ 27 C (((0 + t : Nat)) : Int) := ⟨_, rfl⟩
      obtain ⟨u0, u1, u2⟩ := vC_0 τ 22
      rw [hg] at u0 u1 u2
      rw [hset_o (by decide)] at u0 u1 u2
      have hvr : vC ρ 22 = hset V 6 C (((0 + t : Nat)) : Int) := by
        rw [hρ, show (27 : Nat) = 22 + 5 from rfl, vC_k (by omega), hg, hset2]
      have okr : okV (vC ρ 22) := by rw [hvr]; exact okV_k hV (by omega)
      obtain ⟨w0, w1, w2⟩ := vC_0 ρ 22
      rw [hvr] at w0 w1 w2
      rw [hset_o (by decide)] at w0 w1 w2
      have cor : coOk ρ 22 := by
        refine coOk_v (by omega) (by rw [hρ, hset_row (by decide)]) (fun x => ?_) hct
        rw [hvr, hg, hset_o (by decide), hset_o (by decide), hset_o (by decide), hset_o (by decide)]
        exact ⟨rfl, rfl⟩
      have hor : only σ ρ (fun q => 22 ≤ q ∧ q ≤ 36) := by
        rw [hρ]
        exact only_set ho (by omega)
      have e2 : τ 2 = σ 2 := ho 2 (by omega)
      have hf2 : (fun j => τ 2 ((40 * r).toNat + j)) = f := by rw [e2]; exact hf
      refine hK (fun q => q == 17) 100 _ _ _ _ ?_
      simp only [↓wp, ↓stp, ilen, lnth, st1, st2, nolong, nohead, rnth, ↓gfX, ↓pfX, gfV, pfV, cpF, cpP, cndZ, ↓tgo, ↓tsw, ↓lsw, ↓ldI, ↓ldA, ↓ldL, ↓stI, ↓stA, ↓stL, ↓bin, ↓binD, ↓binL, ↓binDL, ↓una, ↓acV, ↓acK, ↓acpy, ↓inv, entL, nones, List.length_cons, List.length_nil, List.take, List.drop, List.reverse_cons, List.reverse_nil, List.nil_append, List.cons_append, Option.toList_some, Option.toList_none, Nat.reduceAdd, Nat.reduceSub, Nat.reduceLT, Nat.reduceEqDiff, Fin.isValue, aTL, aSZ, Int.toNat_natCast, hset_same, hset_o, hset_s, hset_row, ne_eq, Nat.reduceBEq, beq_self_eq_true, Fin.val_zero, Fin.val_one, fin0, fin1, fin2, fin3, Nat.le_refl, Nat.reduceLeDiff, Nat.zero_le, Int.reduceAdd, Int.reduceNeg, Int.reduceLE, Int.reduceLT, Int.reduceToNat, Int.reduceMul, Int.cast_ofNat_Int, Nat.reduceMod, ↓reduceIte, if_true, if_false, and_true, true_and, or_true, true_or, false_or, or_false, and_self, not_true_eq_false, not_false_eq_true, Bool.false_eq_true, reduceCtorEq, false_implies, true_implies, implies_true, and_false, false_and, dX7_fittingKeys_0, dX7_fittingKeys_1, dX7_fittingKeys_3, dX7_fittingKeys_4, dX7_fittingKeys_7, dX7_fittingKeys_8, dX7_fittingKeys_11, dX7_fittingKeys_14, dX7_fittingKeys_15, dX7_fittingKeys_17, dX7_fittingKeys_19, dX7_fittingKeys_21, dX7_fittingKeys_24, dX7_fittingKeys_25, dX7_fittingKeys_28, dX7_fittingKeys_31, dX7_fittingKeys_32, dX7_fittingKeys_34, dX7_fittingKeys_35, dX7_fittingKeys_37, dX7_fittingKeys_38, dX7_fittingKeys_40, dX7_fittingKeys_41, dX7_fittingKeys_42, dX7_fittingKeys_45, dX7_fittingKeys_46, dX7_fittingKeys_48, dX7_fittingKeys_51, dX7_fittingKeys_54, dX7_fittingKeys_56, cpX7, mT_X7_fittingKeys, SHl_0, SHl_1, SHl_2, SHl_3, SHl_4, SHl_5, SHl_6, SHl_7, SHl_8, SHl_9, SHl_10, SHl_11, SHl_12, SHl_13, SHl_14, SHl_15, SHl_16, SHl_17, SHl_18, SHl_19, SHl_20, SHl_21, SHl_22, SHl_23, SHl_24, SHl_25, SHl_26, SHl_27, SHl_28, SHl_29, SHl_30, SHl_31, SHl_32, SHl_33, SHl_34, SHl_35, SHl_36, SHl_37, SHl_38, SHl_39, SHl_40, SHl_41, SHl_42, SHl_43, SHl_44, SHl_45, SHl_46, SHl_47, SHl_48, SHl_49, SHl_50, SHl_51, SHl_52, SHl_53, SHl_54, SHl_55, SHl_56, SHl_57, S_X4_becomeLike, S_X7_bitIfLettersFit]
      rw [hC, Int.toNat_natCast, ← hρ]
      have hx : ∀ x, only ρ x (fun q => 29 ≤ q ∧ q ≤ 36) → K 17 [some (.inr (.inl 0)), some (.inl (C : Int)), some (.inl r), some (.inl k), some (.inl (zor (orF (fun v => fitF (hset V 6 C (v : Int)) f k.toNat) 0 t) (if fitF (vC ρ 22) (fun j => τ 2 ((40 * r).toNat + j)) k.toNat = 1 then zshl 1 (((0 + t : Nat)) : Int) else 0))), some (.inl ((((0 + t : Nat)) : Int) + 1))] [] x := by
        intro x hx
        rw [hvr, hf2]
        have := ih (t + 1) (by omega) x (fun q hqq => by rw [hx q (by omega)]; exact hor q hqq) (coOk_only hx (fun i hi => by omega) cor) ⟨_, (vC_only hx (fun i hi => by omega)).trans hvr⟩
        rw [hC] at this
        exact this
      (repeat' (first | exact okr | exact cor | exact hx _ ‹_› | (intro j; rw [e2]; exact hJ j) | apply And.intro | intro _)) <;> omega
  refine hK (fun q => q == 17) 100 _ _ _ _ ?_
  simp only [↓wp, ↓stp, ilen, lnth, st1, st2, nolong, nohead, rnth, ↓gfX, ↓pfX, gfV, pfV, cpF, cpP, cndZ, ↓tgo, ↓tsw, ↓lsw, ↓ldI, ↓ldA, ↓ldL, ↓stI, ↓stA, ↓stL, ↓bin, ↓binD, ↓binL, ↓binDL, ↓una, ↓acV, ↓acK, ↓acpy, ↓inv, entL, nones, List.length_cons, List.length_nil, List.take, List.drop, List.reverse_cons, List.reverse_nil, List.nil_append, List.cons_append, Option.toList_some, Option.toList_none, Nat.reduceAdd, Nat.reduceSub, Nat.reduceLT, Nat.reduceEqDiff, Fin.isValue, aTL, aSZ, Int.toNat_natCast, hset_same, hset_o, hset_s, hset_row, ne_eq, Nat.reduceBEq, beq_self_eq_true, Fin.val_zero, Fin.val_one, fin0, fin1, fin2, fin3, Nat.le_refl, Nat.reduceLeDiff, Nat.zero_le, Int.reduceAdd, Int.reduceNeg, Int.reduceLE, Int.reduceLT, Int.reduceToNat, Int.reduceMul, Int.cast_ofNat_Int, Nat.reduceMod, ↓reduceIte, if_true, if_false, and_true, true_and, or_true, true_or, false_or, or_false, and_self, not_true_eq_false, not_false_eq_true, Bool.false_eq_true, reduceCtorEq, false_implies, true_implies, implies_true, and_false, false_and, dX7_fittingKeys_0, dX7_fittingKeys_1, dX7_fittingKeys_3, dX7_fittingKeys_4, dX7_fittingKeys_7, dX7_fittingKeys_8, dX7_fittingKeys_11, dX7_fittingKeys_14, dX7_fittingKeys_15, dX7_fittingKeys_17, dX7_fittingKeys_19, dX7_fittingKeys_21, dX7_fittingKeys_24, dX7_fittingKeys_25, dX7_fittingKeys_28, dX7_fittingKeys_31, dX7_fittingKeys_32, dX7_fittingKeys_34, dX7_fittingKeys_35, dX7_fittingKeys_37, dX7_fittingKeys_38, dX7_fittingKeys_40, dX7_fittingKeys_41, dX7_fittingKeys_42, dX7_fittingKeys_45, dX7_fittingKeys_46, dX7_fittingKeys_48, dX7_fittingKeys_51, dX7_fittingKeys_54, dX7_fittingKeys_56, cpX7, mT_X7_fittingKeys, SHl_0, SHl_1, SHl_2, SHl_3, SHl_4, SHl_5, SHl_6, SHl_7, SHl_8, SHl_9, SHl_10, SHl_11, SHl_12, SHl_13, SHl_14, SHl_15, SHl_16, SHl_17, SHl_18, SHl_19, SHl_20, SHl_21, SHl_22, SHl_23, SHl_24, SHl_25, SHl_26, SHl_27, SHl_28, SHl_29, SHl_30, SHl_31, SHl_32, SHl_33, SHl_34, SHl_35, SHl_36, SHl_37, SHl_38, SHl_39, SHl_40, SHl_41, SHl_42, SHl_43, SHl_44, SHl_45, SHl_46, SHl_47, SHl_48, SHl_49, SHl_50, SHl_51, SHl_52, SHl_53, SHl_54, SHl_55, SHl_56, SHl_57, S_X4_becomeLike, S_X7_bitIfLettersFit]
  refine ⟨isPc_22, isPc_7, by rw [← hVe]; exact hV, fun τ h1 h2 h3 => ?_⟩
  rw [← hVe] at h2
  exact loop 12 0 (by omega) τ (fun q hqq => h1 q (by unfold inP; omega)) (h3 hco) ⟨V 6 C, by rw [h2, hset_id]⟩
