/-! ===== the class: what a token does ===== -/
def S_X4_addKey : MSpec := fun a σ Q => match a with
  | [.inr (.inl 22), .inl v] => (∃ D0 j, opP (vC σ 22) D0 j ∧ j ≤ 3) ∧ ∀ τ, only σ τ (inP 22) → vC τ 22 = adK (vC σ 22) v → (coOk σ 22 → coOk τ 22) → Q none τ
  | _ => False
theorem rc_X4_addKey : ∀ a σ Q, S_X4_addKey a σ Q → ∃ (p : Nat) (r : List AV), a = .inr (.inl p) :: r ∧ p < 76 ∧ (SH p).1 = 4 ∧ (SH p).2.1 = 3 := by
  intro a σ Q h
  unfold S_X4_addKey at h
  split at h
  · exact ⟨22, _, rfl, by decide, rfl, rfl⟩
  · exact h.elim
def mT_X4_addKey (i : Nat) : Option (Nat × Bool × MSpec) := match i with
  | _ => none
theorem mT_X4_addKey_ok {l : Launch} {n : Nat} (hn : 0 ≤ n) : ∀ i e, mT_X4_addKey i = some e → mV l (rmOf n) RX4 i e := by
  intro i e h
  unfold mT_X4_addKey at h
  split at h
  · cases h
set_option maxRecDepth 100000 in
set_option maxHeartbeats 4000000 in
theorem ok_X4_addKey : ∀ l n, 0 ≤ n → ∀ a σ Q, S_X4_addKey a σ Q → AM l n yX4_addKey cX4_addKey 2 none a σ Q := by
  intro l n hn a σ Q hS
  unfold S_X4_addKey at hS
  split at hS
  rotate_left
  · exact hS.elim
  rename_i v
  obtain ⟨⟨D0, j, ⟨kd, b, f, g, hD, hV0, hc0, hkd, hb, hf, hz, hg, hn9⟩, hj⟩, hq⟩ := hS
  refine am_ofF 0 cpX4 mT_X4_addKey (plainFor_of_name (by decide +kernel)) (rfl) (Nat.le_of_ble_eq_true rfl) (cpX4_ok) (mT_X4_addKey_ok hn) (fun K hK => ?_)
  refine hK (fun _ => false) 200 _ _ _ _ ?_
  simp only [↓wp, ↓stp, ilen, lnth, st1, st2, nolong, nohead, rnth, ↓gfX, ↓pfX, gfV, pfV, cpF, cpP, cndZ, ↓tgo, ↓tsw, ↓lsw, ↓ldI, ↓ldA, ↓ldL, ↓stI, ↓stA, ↓stL, ↓bin, ↓binD, ↓binL, ↓binDL, ↓una, ↓acV, ↓acK, ↓acpy, ↓inv, entL, nones, List.length_cons, List.length_nil, List.take, List.drop, List.reverse_cons, List.reverse_nil, List.nil_append, List.cons_append, Option.toList_some, Option.toList_none, Nat.reduceAdd, Nat.reduceSub, Nat.reduceLT, Nat.reduceEqDiff, Fin.isValue, aTL, aSZ, Int.toNat_natCast, hset_same, hset_o, hset_s, hset_row, ne_eq, Nat.reduceBEq, beq_self_eq_true, Fin.val_zero, Fin.val_one, fin0, fin1, fin2, fin3, Nat.le_refl, Nat.reduceLeDiff, Nat.zero_le, Int.reduceAdd, Int.reduceNeg, Int.reduceLE, Int.reduceLT, Int.reduceToNat, Int.reduceMul, Int.cast_ofNat_Int, Nat.reduceMod, ↓reduceIte, if_true, if_false, and_true, true_and, or_true, true_or, false_or, or_false, and_self, not_true_eq_false, not_false_eq_true, Bool.false_eq_true, reduceCtorEq, false_implies, true_implies, implies_true, and_false, false_and, dX4_addKey_0, dX4_addKey_1, dX4_addKey_4, dX4_addKey_7, dX4_addKey_8, dX4_addKey_11, dX4_addKey_13, dX4_addKey_16, dX4_addKey_17, dX4_addKey_20, dX4_addKey_21, dX4_addKey_24, dX4_addKey_25, dX4_addKey_26, dX4_addKey_27, dX4_addKey_30, dX4_addKey_31, dX4_addKey_34, dX4_addKey_35, dX4_addKey_38, dX4_addKey_39, dX4_addKey_40, dX4_addKey_41, dX4_addKey_42, dX4_addKey_43, dX4_addKey_46, dX4_addKey_47, dX4_addKey_48, dX4_addKey_51, dX4_addKey_52, dX4_addKey_55, dX4_addKey_56, dX4_addKey_59, dX4_addKey_60, dX4_addKey_63, dX4_addKey_64, cpX4, mT_X4_addKey, SHl_0, SHl_1, SHl_2, SHl_3, SHl_4, SHl_5, SHl_6, SHl_7, SHl_8, SHl_9, SHl_10, SHl_11, SHl_12, SHl_13, SHl_14, SHl_15, SHl_16, SHl_17, SHl_18, SHl_19, SHl_20, SHl_21, SHl_22, SHl_23, SHl_24, SHl_25, SHl_26, SHl_27, SHl_28, SHl_29, SHl_30, SHl_31, SHl_32, SHl_33, SHl_34, SHl_35, SHl_36, SHl_37, SHl_38, SHl_39, SHl_40, SHl_41, SHl_42, SHl_43, SHl_44, SHl_45, SHl_46, SHl_47, SHl_48, SHl_49, SHl_50, SHl_51, SHl_52, SHl_53, SHl_54, SHl_55, SHl_56, SHl_57]
  obtain ⟨v0, v1, v2⟩ := vC_0 σ 22
  obtain ⟨o1, o2, o3, o4, oc, on⟩ := id hV0
  have d1 : vC σ 22 0 1 = D0 0 1 + 1 := by rw [hD]; rfl
  have d2 : vC σ 22 0 2 = D0 0 2 + j := by rw [hD]; rfl
  obtain ⟨k, hk⟩ : ∃ k : Nat, D0 0 1 = k := ⟨(D0 0 1).toNat, by omega⟩
  obtain ⟨n, hnn⟩ : ∃ n : Nat, σ 22 2 = n := ⟨(σ 22 2).toNat, by omega⟩
  have hk1 : σ 22 1 = (k : Int) + 1 := by omega
  obtain ⟨-, -, -, e4, e5⟩ := vC_c (σ := σ) (p := 22) (c := k) (by omega)
  have d4 : vC σ 22 4 k = D0 0 2 := by
    rw [hD]
    show (if ((k : Nat) : Int) = D0 0 1 then D0 0 2 else _) = _
    rw [if_pos hk.symm]
  have d5 : vC σ 22 5 k = j := by
    rw [hD]
    show (if ((k : Nat) : Int) = D0 0 1 then (j : Int) else _) = _
    rw [if_pos hk.symm]
  have h26 : σ 26 (k + 1) = n := by
    have e4 : vC σ 22 4 k = σ 26 k := e4
    have e5 : vC σ 22 5 k = σ 26 (k + 1) - σ 26 k := e5
    omega
  rw [hk1, hnn]
  simp only [Int.toNat_natCast, show ((k : Int) + 1).toNat = k + 1 by omega]
  have fin : Q none (hset (hset (hset (hset σ 27 n v) 28 n ((k : Int) + 1 - 1)) 22 2 ((n : Int) + 1)) 26 (k + 1) ((n : Int) + 1)) := by
    generalize hτ : (hset (hset (hset (hset σ 27 n v) 28 n ((k : Int) + 1 - 1)) 22 2 ((n : Int) + 1)) 26 (k + 1) ((n : Int) + 1)) = τ
    have t0 : τ 22 0 = σ 22 0 := by rw [← hτ]; rfl
    have t1 : τ 22 1 = (k : Int) + 1 := by rw [← hτ, ← hk1]; rfl
    have t2 : τ 22 2 = (n : Int) + 1 := by rw [← hτ]; rfl
    have t3 : τ 23 = σ 23 := by rw [← hτ]; rfl
    have t4 : τ 24 = σ 24 := by rw [← hτ]; rfl
    have t5 : τ 25 = σ 25 := by rw [← hτ]; rfl
    have t6 : ∀ c, τ 26 c = if c = k + 1 then (n : Int) + 1 else σ 26 c := fun c => by
      rw [← hτ, hset_at, hset_o (by decide), hset_o (by decide), hset_o (by decide)]
      simp
    have t7 : ∀ c, τ 27 c = if c = n then v else σ 27 c := fun c => by
      rw [← hτ, hset_o (by decide), hset_o (by decide), hset_o (by decide), hset_at]
      simp
    have t8 : ∀ c, τ 28 c = if c = n then (k : Int) else σ 28 c := fun c => by
      rw [← hτ, hset_o (by decide), hset_o (by decide), hset_at, hset_o (by decide)]
      simp
    have a1 : vC σ 22 0 1 = (k : Int) + 1 := by rw [v1, hk1]
    have a2 : vC σ 22 0 2 = (n : Int) := by rw [v2, hnn]
    have hv : vC τ 22 = adK (vC σ 22) v := by
      unfold adK
      rw [a1, a2, show ((k : Int) + 1 - 1).toNat = k by omega, Int.toNat_natCast, d5]
      funext q c
      rcases q with _ | _ | _ | _ | _ | _ | _ | q <;> simp only [hset_at, Nat.zero_add, Nat.reduceAdd]
      · by_cases h : c < 3
        · rcases (show c = 0 ∨ c = 1 ∨ c = 2 by omega) with rfl | rfl | rfl
          · simp [vC, t0]
          · simp [vC, t1, hk1]
          · simp [vC, t2]
        · simp [vC, h]
          omega
      · simp [vC, t1, t3, hk1]
      · simp [vC, t1, t4, hk1]
      · simp [vC, t1, t5, hk1]
      · simp only [vC, t1, t6, hk1, Nat.reduceAdd]
        (repeat' split) <;> first | rfl | omega | (simp_all; done) | (simp_all <;> omega)
      · have e5 : vC σ 22 5 k = σ 26 (k + 1) - σ 26 k := e5
        simp only [vC, t1, t6, hk1, Nat.reduceAdd]
        by_cases h : c = k
        · subst h
          simp
          omega
        · rw [if_neg (show ¬ c + 1 = k + 1 by omega)]
          by_cases h' : (c : Int) < (k : Int) + 1
          · rw [if_pos h', if_neg (show ¬ c = k + 1 by omega)]
            simp [h, h']
          · rw [if_neg h']
            simp [h, h']
      · simp only [vC, t2, t7, hnn, Nat.reduceAdd]
        by_cases h : c = n
        · subst h
          simp
          omega
        · by_cases h' : (c : Int) < n
          · rw [if_pos (by omega), if_neg h]
            simp [h, h']
          · rw [if_neg (by omega)]
            simp [h, h']
      · simp [vC]
    refine hq τ (fun q hqq => ?_) hv (fun hco => ?_)
    · unfold inP at hqq
      rw [← hτ, hset_row (by omega), hset_row (by omega), hset_row (by omega), hset_row (by omega)]
    · have r4 : ∀ c, vC τ 22 4 c = vC σ 22 4 c := fun c => by
        rw [hv]
        unfold adK
        simp only [hset_at]
        simp
      have r5 : ∀ c, vC τ 22 5 c = if c = k then (j : Int) + 1 else vC σ 22 5 c := fun c => by
        rw [hv]
        unfold adK
        rw [a1, show ((k : Int) + 1 - 1).toNat = k by omega, d5]
        simp only [hset_at]
        simp
      intro c j' hc hj'
      rw [t1] at hc
      rw [r5] at hj'
      rw [r4]
      show τ 28 _ = _
      rw [t8]
      by_cases h : c = k
      · subst h
        rw [if_pos rfl] at hj'
        rw [d4]
        by_cases h' : j' = j
        · subst h'
          rw [if_pos (by omega)]
        · rw [if_neg (by omega), ← d4]
          exact hco c j' (by rw [hk1]; omega) (by rw [d5]; omega)
      · rw [if_neg h] at hj'
        have hc' : (c : Int) < D0 0 1 := by omega
        have q4 : vC σ 22 4 c = D0 4 c := by
          rw [hD]
          show (if ((c : Nat) : Int) = D0 0 1 then _ else D0 4 c) = _
          rw [if_neg (by omega)]
        have q5 : vC σ 22 5 c = D0 5 c := by
          rw [hD]
          show (if ((c : Nat) : Int) = D0 0 1 then _ else D0 5 c) = _
          rw [if_neg (by omega)]
        obtain ⟨x1, x2, x3, x4, x5, x6, -⟩ := oc c hc'
        rw [if_neg (by omega)]
        exact hco c j' (by rw [hk1]; omega) hj'
  (repeat' (first | exact fin | apply And.intro | intro _)) <;> omega
def S_X6_want : MSpec := fun a σ Q => match a with
  | [.inr (.inl 5), .inl t, .inl w] => R32 (σ 5 3) ∧ R32 t ∧ (if σ 5 3 = t then Q (some (.inl 0)) (hset σ 5 6 w) else Q (some (.inl 1)) σ)
  | _ => False
theorem rc_X6_want : ∀ a σ Q, S_X6_want a σ Q → ∃ (p : Nat) (r : List AV), a = .inr (.inl p) :: r ∧ p < 76 ∧ (SH p).1 = 4 ∧ (SH p).2.1 = 5 := by
  intro a σ Q h
  unfold S_X6_want at h
  split at h
  · exact ⟨5, _, rfl, by decide, rfl, rfl⟩
  · exact h.elim
def mT_X6_want (i : Nat) : Option (Nat × Bool × MSpec) := match i with
  | _ => none
theorem mT_X6_want_ok {l : Launch} {n : Nat} (hn : 0 ≤ n) : ∀ i e, mT_X6_want i = some e → mV l (rmOf n) RX6 i e := by
  intro i e h
  unfold mT_X6_want at h
  split at h
  · cases h
set_option maxRecDepth 100000 in
set_option maxHeartbeats 4000000 in
theorem ok_X6_want : ∀ l n, 0 ≤ n → ∀ a σ Q, S_X6_want a σ Q → AM l n yX6_want cX6_want 3 (some .int) a σ Q := by
  intro l n hn a σ Q hS
  unfold S_X6_want at hS
  split at hS
  rotate_left
  · exact hS.elim
  rename_i t w
  obtain ⟨⟨a1, a2⟩, ⟨b1, b2⟩, hq⟩ := hS
  refine am_ofF 1 cpX6 mT_X6_want (plainFor_of_name (by decide +kernel)) (rfl) (Nat.le_of_ble_eq_true rfl) (cpX6_ok) (mT_X6_want_ok hn) (fun K hK => ?_)
  refine hK (fun _ => false) 200 _ _ _ _ ?_
  simp only [↓wp, ↓stp, ilen, lnth, st1, st2, nolong, nohead, rnth, ↓gfX, ↓pfX, gfV, pfV, cpF, cpP, cndZ, ↓tgo, ↓tsw, ↓lsw, ↓ldI, ↓ldA, ↓ldL, ↓stI, ↓stA, ↓stL, ↓bin, ↓binD, ↓binL, ↓binDL, ↓una, ↓acV, ↓acK, ↓acpy, ↓inv, entL, nones, List.length_cons, List.length_nil, List.take, List.drop, List.reverse_cons, List.reverse_nil, List.nil_append, List.cons_append, Option.toList_some, Option.toList_none, Nat.reduceAdd, Nat.reduceSub, Nat.reduceLT, Nat.reduceEqDiff, Fin.isValue, aTL, aSZ, Int.toNat_natCast, hset_same, hset_o, hset_s, hset_row, ne_eq, Nat.reduceBEq, beq_self_eq_true, Fin.val_zero, Fin.val_one, fin0, fin1, fin2, fin3, Nat.le_refl, Nat.reduceLeDiff, Nat.zero_le, Int.reduceAdd, Int.reduceNeg, Int.reduceLE, Int.reduceLT, Int.reduceToNat, Int.reduceMul, Int.cast_ofNat_Int, Nat.reduceMod, ↓reduceIte, if_true, if_false, and_true, true_and, or_true, true_or, false_or, or_false, and_self, not_true_eq_false, not_false_eq_true, Bool.false_eq_true, reduceCtorEq, false_implies, true_implies, implies_true, and_false, false_and, dX6_want_0, dX6_want_1, dX6_want_4, dX6_want_5, dX6_want_8, dX6_want_9, dX6_want_10, dX6_want_11, dX6_want_12, dX6_want_15, dX6_want_16, cpX6, mT_X6_want, SHl_0, SHl_1, SHl_2, SHl_3, SHl_4, SHl_5, SHl_6, SHl_7, SHl_8, SHl_9, SHl_10, SHl_11, SHl_12, SHl_13, SHl_14, SHl_15, SHl_16, SHl_17, SHl_18, SHl_19, SHl_20, SHl_21, SHl_22, SHl_23, SHl_24, SHl_25, SHl_26, SHl_27, SHl_28, SHl_29, SHl_30, SHl_31, SHl_32, SHl_33, SHl_34, SHl_35, SHl_36, SHl_37, SHl_38, SHl_39, SHl_40, SHl_41, SHl_42, SHl_43, SHl_44, SHl_45, SHl_46, SHl_47, SHl_48, SHl_49, SHl_50, SHl_51, SHl_52, SHl_53, SHl_54, SHl_55, SHl_56, SHl_57]
  (repeat' (first | apply And.intro | intro _)) <;> first | omega | exact hq | (rw [if_pos (by omega)] at hq; exact hq) | (rw [if_neg (by omega)] at hq; exact hq) | (repeat (first | rw [if_pos (by omega)] at hq | rw [if_neg (by omega)] at hq)) <;> exact hq | assumption | exact R32_of _
def S_X6_takeSignature : MSpec := fun a σ Q => match a with
  | [.inr (.inl 5), .inr (.inl 22)] => R32 (σ 5 3) ∧ (σ 5 3 = -3 → R32 (σ 5 5)) ∧ (if σ 5 3 = -3 then (if 0 ≤ σ 5 5 ∧ σ 5 5 < 15 then Q (some (.inl 0)) (hset (hset σ 22 0 (σ 5 5)) 5 6 2) else Q (some (.inl 2)) σ) else Q (some (.inl 1)) σ)
  | _ => False
theorem rc_X6_takeSignature : ∀ a σ Q, S_X6_takeSignature a σ Q → ∃ (p : Nat) (r : List AV), a = .inr (.inl p) :: r ∧ p < 76 ∧ (SH p).1 = 4 ∧ (SH p).2.1 = 5 := by
  intro a σ Q h
  unfold S_X6_takeSignature at h
  split at h
  · exact ⟨5, _, rfl, by decide, rfl, rfl⟩
  · exact h.elim
def mT_X6_takeSignature (i : Nat) : Option (Nat × Bool × MSpec) := match i with
  | 76 => some (1, false, S_X7_isSignature)
  | _ => none
theorem mT_X6_takeSignature_ok {l : Launch} {n : Nat} (hn : 1 ≤ n) : ∀ i e, mT_X6_takeSignature i = some e → mV l (rmOf n) RX6 i e := by
  intro i e h
  unfold mT_X6_takeSignature at h
  split at h
  · cases h; exact mvS (lv := 0) mw_X7_isSignature (by omega) (by decide) (by decide +kernel) (Or.inr ⟨rfl, Or.inl ⟨rfl, rfl⟩⟩) ok_X7_isSignature
  · cases h
set_option maxRecDepth 100000 in
set_option maxHeartbeats 4000000 in
theorem ok_X6_takeSignature : ∀ l n, 1 ≤ n → ∀ a σ Q, S_X6_takeSignature a σ Q → AM l n yX6_takeSignature cX6_takeSignature 2 (some .int) a σ Q := by
  intro l n hn a σ Q hS
  unfold S_X6_takeSignature at hS
  split at hS
  rotate_left
  · exact hS.elim
  obtain ⟨⟨a1, a2⟩, hv, hq⟩ := hS
  refine am_ofF 1 cpX6 mT_X6_takeSignature (plainFor_of_name (by decide +kernel)) (rfl) (Nat.le_of_ble_eq_true rfl) (cpX6_ok) (mT_X6_takeSignature_ok hn) (fun K hK => ?_)
  refine hK (fun _ => false) 200 _ _ _ _ ?_
  simp only [↓wp, ↓stp, ilen, lnth, st1, st2, nolong, nohead, rnth, ↓gfX, ↓pfX, gfV, pfV, cpF, cpP, cndZ, ↓tgo, ↓tsw, ↓lsw, ↓ldI, ↓ldA, ↓ldL, ↓stI, ↓stA, ↓stL, ↓bin, ↓binD, ↓binL, ↓binDL, ↓una, ↓acV, ↓acK, ↓acpy, ↓inv, entL, nones, List.length_cons, List.length_nil, List.take, List.drop, List.reverse_cons, List.reverse_nil, List.nil_append, List.cons_append, Option.toList_some, Option.toList_none, Nat.reduceAdd, Nat.reduceSub, Nat.reduceLT, Nat.reduceEqDiff, Fin.isValue, aTL, aSZ, Int.toNat_natCast, hset_same, hset_o, hset_s, hset_row, ne_eq, Nat.reduceBEq, beq_self_eq_true, Fin.val_zero, Fin.val_one, fin0, fin1, fin2, fin3, Nat.le_refl, Nat.reduceLeDiff, Nat.zero_le, Int.reduceAdd, Int.reduceNeg, Int.reduceLE, Int.reduceLT, Int.reduceToNat, Int.reduceMul, Int.cast_ofNat_Int, Nat.reduceMod, ↓reduceIte, if_true, if_false, and_true, true_and, or_true, true_or, false_or, or_false, and_self, not_true_eq_false, not_false_eq_true, Bool.false_eq_true, reduceCtorEq, false_implies, true_implies, implies_true, and_false, false_and, dX6_takeSignature_0, dX6_takeSignature_1, dX6_takeSignature_4, dX6_takeSignature_6, dX6_takeSignature_9, dX6_takeSignature_10, dX6_takeSignature_11, dX6_takeSignature_12, dX6_takeSignature_15, dX6_takeSignature_18, dX6_takeSignature_21, dX6_takeSignature_22, dX6_takeSignature_23, dX6_takeSignature_24, dX6_takeSignature_25, dX6_takeSignature_28, dX6_takeSignature_31, dX6_takeSignature_32, dX6_takeSignature_33, dX6_takeSignature_36, dX6_takeSignature_37, cpX6, mT_X6_takeSignature, SHl_0, SHl_1, SHl_2, SHl_3, SHl_4, SHl_5, SHl_6, SHl_7, SHl_8, SHl_9, SHl_10, SHl_11, SHl_12, SHl_13, SHl_14, SHl_15, SHl_16, SHl_17, SHl_18, SHl_19, SHl_20, SHl_21, SHl_22, SHl_23, SHl_24, SHl_25, SHl_26, SHl_27, SHl_28, SHl_29, SHl_30, SHl_31, SHl_32, SHl_33, SHl_34, SHl_35, SHl_36, SHl_37, SHl_38, SHl_39, SHl_40, SHl_41, SHl_42, SHl_43, SHl_44, SHl_45, SHl_46, SHl_47, SHl_48, SHl_49, SHl_50, SHl_51, SHl_52, SHl_53, SHl_54, SHl_55, SHl_56, SHl_57, S_X7_isSignature]
  by_cases ht : σ 5 3 = -3
  · obtain ⟨b1, b2⟩ := hv ht
    rw [if_pos ht] at hq
    (repeat' (first | apply And.intro | intro _)) <;> first | omega | exact hq | (rw [if_pos (by omega)] at hq; exact hq) | (rw [if_neg (by omega)] at hq; exact hq) | (repeat (first | rw [if_pos (by omega)] at hq | rw [if_neg (by omega)] at hq)) <;> exact hq | assumption | exact R32_of _
  · rw [if_neg ht] at hq
    (repeat' (first | apply And.intro | intro _)) <;> first | omega | exact hq | (rw [if_pos (by omega)] at hq; exact hq) | (rw [if_neg (by omega)] at hq; exact hq) | (repeat (first | rw [if_pos (by omega)] at hq | rw [if_neg (by omega)] at hq)) <;> exact hq | assumption | exact R32_of _
def S_X6_takeKey : MSpec := fun a σ Q => match a with
  | [.inr (.inl 5), .inr (.inl 22)] => R32 (σ 5 3) ∧ (σ 5 3 = -3 → R32 (σ 5 5)) ∧ R32 (σ 5 7) ∧ (∃ D0 j, opP (vC σ 22) D0 j ∧ j ≤ 3) ∧ (if σ 5 3 = -3 then (if (0 ≤ σ 5 5 ∧ σ 5 5 < 12) ∧ σ 5 7 < σ 5 5 then (∀ τ, only σ τ (inP 22) → vC τ 22 = adK (vC σ 22) (σ 5 5) → (coOk σ 22 → coOk τ 22) → Q (some (.inl 0)) (hset (hset τ 5 7 (σ 5 5)) 5 6 5)) else Q (some (.inl 2)) σ) else Q (some (.inl 1)) σ)
  | _ => False
theorem rc_X6_takeKey : ∀ a σ Q, S_X6_takeKey a σ Q → ∃ (p : Nat) (r : List AV), a = .inr (.inl p) :: r ∧ p < 76 ∧ (SH p).1 = 4 ∧ (SH p).2.1 = 5 := by
  intro a σ Q h
  unfold S_X6_takeKey at h
  split at h
  · exact ⟨5, _, rfl, by decide, rfl, rfl⟩
  · exact h.elim
def mT_X6_takeKey (i : Nat) : Option (Nat × Bool × MSpec) := match i with
  | 99 => some (1, false, S_X7_isKey)
  | 102 => some (2, true, S_X4_addKey)
  | _ => none
theorem mT_X6_takeKey_ok {l : Launch} {n : Nat} (hn : 1 ≤ n) : ∀ i e, mT_X6_takeKey i = some e → mV l (rmOf n) RX6 i e := by
  intro i e h
  unfold mT_X6_takeKey at h
  split at h
  · cases h; exact mvS (lv := 0) mw_X7_isKey (by omega) (by decide) (by decide +kernel) (Or.inr ⟨rfl, Or.inr ⟨rfl, rfl⟩⟩) ok_X7_isKey
  · cases h; exact mvI (lv := 0) (ci := 3) (T := TX4) (N := 9) mw_X4_addKey rfl (by omega) (by decide) (by decide +kernel) (gtm 385 (by decide +kernel) (by decide +kernel)) rc_X4_addKey ok_X4_addKey
  · cases h
set_option maxRecDepth 100000 in
set_option maxHeartbeats 4000000 in
theorem ok_X6_takeKey : ∀ l n, 1 ≤ n → ∀ a σ Q, S_X6_takeKey a σ Q → AM l n yX6_takeKey cX6_takeKey 2 (some .int) a σ Q := by
  intro l n hn a σ Q hS
  unfold S_X6_takeKey at hS
  split at hS
  rotate_left
  · exact hS.elim
  obtain ⟨⟨a1, a2⟩, hv, ⟨l1, l2⟩, hO, hq⟩ := hS
  refine am_ofF 1 cpX6 mT_X6_takeKey (plainFor_of_name (by decide +kernel)) (rfl) (Nat.le_of_ble_eq_true rfl) (cpX6_ok) (mT_X6_takeKey_ok hn) (fun K hK => ?_)
  refine hK (fun _ => false) 200 _ _ _ _ ?_
  simp only [↓wp, ↓stp, ilen, lnth, st1, st2, nolong, nohead, rnth, ↓gfX, ↓pfX, gfV, pfV, cpF, cpP, cndZ, ↓tgo, ↓tsw, ↓lsw, ↓ldI, ↓ldA, ↓ldL, ↓stI, ↓stA, ↓stL, ↓bin, ↓binD, ↓binL, ↓binDL, ↓una, ↓acV, ↓acK, ↓acpy, ↓inv, entL, nones, List.length_cons, List.length_nil, List.take, List.drop, List.reverse_cons, List.reverse_nil, List.nil_append, List.cons_append, Option.toList_some, Option.toList_none, Nat.reduceAdd, Nat.reduceSub, Nat.reduceLT, Nat.reduceEqDiff, Fin.isValue, aTL, aSZ, Int.toNat_natCast, hset_same, hset_o, hset_s, hset_row, ne_eq, Nat.reduceBEq, beq_self_eq_true, Fin.val_zero, Fin.val_one, fin0, fin1, fin2, fin3, Nat.le_refl, Nat.reduceLeDiff, Nat.zero_le, Int.reduceAdd, Int.reduceNeg, Int.reduceLE, Int.reduceLT, Int.reduceToNat, Int.reduceMul, Int.cast_ofNat_Int, Nat.reduceMod, ↓reduceIte, if_true, if_false, and_true, true_and, or_true, true_or, false_or, or_false, and_self, not_true_eq_false, not_false_eq_true, Bool.false_eq_true, reduceCtorEq, false_implies, true_implies, implies_true, and_false, false_and, dX6_takeKey_0, dX6_takeKey_1, dX6_takeKey_4, dX6_takeKey_6, dX6_takeKey_9, dX6_takeKey_10, dX6_takeKey_11, dX6_takeKey_12, dX6_takeKey_15, dX6_takeKey_18, dX6_takeKey_21, dX6_takeKey_22, dX6_takeKey_25, dX6_takeKey_26, dX6_takeKey_29, dX6_takeKey_32, dX6_takeKey_33, dX6_takeKey_34, dX6_takeKey_35, dX6_takeKey_36, dX6_takeKey_39, dX6_takeKey_42, dX6_takeKey_43, dX6_takeKey_44, dX6_takeKey_47, dX6_takeKey_50, dX6_takeKey_51, dX6_takeKey_52, dX6_takeKey_55, dX6_takeKey_56, cpX6, mT_X6_takeKey, SHl_0, SHl_1, SHl_2, SHl_3, SHl_4, SHl_5, SHl_6, SHl_7, SHl_8, SHl_9, SHl_10, SHl_11, SHl_12, SHl_13, SHl_14, SHl_15, SHl_16, SHl_17, SHl_18, SHl_19, SHl_20, SHl_21, SHl_22, SHl_23, SHl_24, SHl_25, SHl_26, SHl_27, SHl_28, SHl_29, SHl_30, SHl_31, SHl_32, SHl_33, SHl_34, SHl_35, SHl_36, SHl_37, SHl_38, SHl_39, SHl_40, SHl_41, SHl_42, SHl_43, SHl_44, SHl_45, SHl_46, SHl_47, SHl_48, SHl_49, SHl_50, SHl_51, SHl_52, SHl_53, SHl_54, SHl_55, SHl_56, SHl_57, S_X4_addKey, S_X7_isKey]
  by_cases ht : σ 5 3 = -3
  · obtain ⟨b1, b2⟩ := hv ht
    rw [if_pos ht] at hq
    have fin : (0 ≤ σ 5 5 ∧ σ 5 5 < 12) ∧ σ 5 7 < σ 5 5 → ∀ τ, only σ τ (inP 22) → vC τ 22 = adK (vC σ 22) (σ 5 5) → (coOk σ 22 → coOk τ 22) → Q (some (.inl 0)) (hset (hset τ 5 7 (τ 5 5)) 5 6 5) := fun hb τ g1 g2 g3 => by
      rw [if_pos hb] at hq
      have := hq τ g1 g2 g3
      rw [← g1 5 (by unfold inP; omega)] at this
      exact this
    (repeat' (first | exact hO | exact fin (by omega) _ ‹_› ‹_› ‹_› | apply And.intro | intro _)) <;> first | omega | (rw [if_neg (by omega)] at hq; exact hq)
  · rw [if_neg ht] at hq
    (repeat' (first | exact hO | apply And.intro | intro _)) <;> first | omega | exact hq
def S_X6_endKey : MSpec := fun a σ Q => match a with
  | [.inr (.inl 5), .inr (.inl 22)] => R32 (σ 5 3) ∧ (0 ≤ σ 22 1 ∧ σ 22 1 ≤ 10) ∧ R32 (szD (vC σ 22)) ∧ (if σ 5 3 = 44 ∧ (0 < σ 22 1 ∧ szD (vC σ 22) < 4) then Q (some (.inl 0)) (hset σ 5 6 4) else if σ 5 3 = 59 then Q (some (.inl 0)) (hset σ 5 6 6) else Q (some (.inl 1)) σ)
  | _ => False
theorem rc_X6_endKey : ∀ a σ Q, S_X6_endKey a σ Q → ∃ (p : Nat) (r : List AV), a = .inr (.inl p) :: r ∧ p < 76 ∧ (SH p).1 = 4 ∧ (SH p).2.1 = 5 := by
  intro a σ Q h
  unfold S_X6_endKey at h
  split at h
  · exact ⟨5, _, rfl, by decide, rfl, rfl⟩
  · exact h.elim
def mT_X6_endKey (i : Nat) : Option (Nat × Bool × MSpec) := match i with
  | 60 => some (3, true, S_X6_want)
  | 106 => some (2, true, S_X4_sizeOf)
  | _ => none
theorem mT_X6_endKey_ok {l : Launch} {n : Nat} (hn : 1 ≤ n) : ∀ i e, mT_X6_endKey i = some e → mV l (rmOf n) RX6 i e := by
  intro i e h
  unfold mT_X6_endKey at h
  split at h
  · cases h; exact mvI (lv := 0) (ci := 5) (T := TX6) (N := 10) mw_X6_want rfl (by omega) (by decide) (by decide +kernel) (gtm 367 (by decide +kernel) (by decide +kernel)) rc_X6_want ok_X6_want
  · cases h; exact mvI (lv := 0) (ci := 3) (T := TX4) (N := 9) mw_X4_sizeOf rfl (by omega) (by decide) (by decide +kernel) (gtm 393 (by decide +kernel) (by decide +kernel)) rc_X4_sizeOf ok_X4_sizeOf
  · cases h
set_option maxRecDepth 100000 in
set_option maxHeartbeats 4000000 in
theorem ok_X6_endKey : ∀ l n, 1 ≤ n → ∀ a σ Q, S_X6_endKey a σ Q → AM l n yX6_endKey cX6_endKey 3 (some .int) a σ Q := by
  intro l n hn a σ Q hS
  unfold S_X6_endKey at hS
  split at hS
  rotate_left
  · exact hS.elim
  obtain ⟨⟨a1, a2⟩, hc, ⟨b1, b2⟩, hq⟩ := hS
  refine am_ofF 1 cpX6 mT_X6_endKey (plainFor_of_name (by decide +kernel)) (rfl) (Nat.le_of_ble_eq_true rfl) (cpX6_ok) (mT_X6_endKey_ok hn) (fun K hK => ?_)
  refine hK (fun _ => false) 200 _ _ _ _ ?_
  simp only [↓wp, ↓stp, ilen, lnth, st1, st2, nolong, nohead, rnth, ↓gfX, ↓pfX, gfV, pfV, cpF, cpP, cndZ, ↓tgo, ↓tsw, ↓lsw, ↓ldI, ↓ldA, ↓ldL, ↓stI, ↓stA, ↓stL, ↓bin, ↓binD, ↓binL, ↓binDL, ↓una, ↓acV, ↓acK, ↓acpy, ↓inv, entL, nones, List.length_cons, List.length_nil, List.take, List.drop, List.reverse_cons, List.reverse_nil, List.nil_append, List.cons_append, Option.toList_some, Option.toList_none, Nat.reduceAdd, Nat.reduceSub, Nat.reduceLT, Nat.reduceEqDiff, Fin.isValue, aTL, aSZ, Int.toNat_natCast, hset_same, hset_o, hset_s, hset_row, ne_eq, Nat.reduceBEq, beq_self_eq_true, Fin.val_zero, Fin.val_one, fin0, fin1, fin2, fin3, Nat.le_refl, Nat.reduceLeDiff, Nat.zero_le, Int.reduceAdd, Int.reduceNeg, Int.reduceLE, Int.reduceLT, Int.reduceToNat, Int.reduceMul, Int.cast_ofNat_Int, Nat.reduceMod, ↓reduceIte, if_true, if_false, and_true, true_and, or_true, true_or, false_or, or_false, and_self, not_true_eq_false, not_false_eq_true, Bool.false_eq_true, reduceCtorEq, false_implies, true_implies, implies_true, and_false, false_and, dX6_endKey_0, dX6_endKey_1, dX6_endKey_4, dX6_endKey_7, dX6_endKey_8, dX6_endKey_9, dX6_endKey_12, dX6_endKey_13, dX6_endKey_14, dX6_endKey_17, dX6_endKey_18, dX6_endKey_21, dX6_endKey_22, dX6_endKey_25, dX6_endKey_26, dX6_endKey_27, dX6_endKey_28, dX6_endKey_31, dX6_endKey_33, dX6_endKey_36, dX6_endKey_37, dX6_endKey_40, dX6_endKey_41, dX6_endKey_43, dX6_endKey_44, dX6_endKey_47, dX6_endKey_50, dX6_endKey_51, dX6_endKey_53, dX6_endKey_55, dX6_endKey_58, cpX6, mT_X6_endKey, SHl_0, SHl_1, SHl_2, SHl_3, SHl_4, SHl_5, SHl_6, SHl_7, SHl_8, SHl_9, SHl_10, SHl_11, SHl_12, SHl_13, SHl_14, SHl_15, SHl_16, SHl_17, SHl_18, SHl_19, SHl_20, SHl_21, SHl_22, SHl_23, SHl_24, SHl_25, SHl_26, SHl_27, SHl_28, SHl_29, SHl_30, SHl_31, SHl_32, SHl_33, SHl_34, SHl_35, SHl_36, SHl_37, SHl_38, SHl_39, SHl_40, SHl_41, SHl_42, SHl_43, SHl_44, SHl_45, SHl_46, SHl_47, SHl_48, SHl_49, SHl_50, SHl_51, SHl_52, SHl_53, SHl_54, SHl_55, SHl_56, SHl_57, S_X4_sizeOf, S_X6_want]
  obtain ⟨v0, v1, v2⟩ := vC_0 σ 22
  have e : 0 < σ 22 1 → szD (vC σ 22) = σ 26 (σ 22 1 - 1 + 1).toNat - σ 26 (σ 22 1 - 1).toNat := fun h => by
    obtain ⟨-, -, -, e4, e5⟩ := vC_c (σ := σ) (p := 22) (c := (σ 22 1 - 1).toNat) (by omega)
    unfold szD
    rw [v1, e5, show (σ 22 1 - 1).toNat + 1 = (σ 22 1 - 1 + 1).toNat by omega]
  by_cases h : 0 < σ 22 1
  · have e := e h
    generalize szD (vC σ 22) = z at *
    generalize σ 26 (σ 22 1 - 1 + 1).toNat - σ 26 (σ 22 1 - 1).toNat = y at *
    subst e
    (repeat' (first | exact isPc_22 | apply And.intro | intro _)) <;> first | omega | ((try split) <;> first | omega | ((repeat (first | rw [if_pos (by omega)] at hq | rw [if_neg (by omega)] at hq)) <;> exact hq))
  · generalize szD (vC σ 22) = z at *
    (repeat' (first | exact isPc_22 | apply And.intro | intro _)) <;> first | omega | ((try split) <;> first | omega | ((repeat (first | rw [if_pos (by omega)] at hq | rw [if_neg (by omega)] at hq)) <;> exact hq))
def S_X6_kindOfSort : MSpec := fun a σ Q => match a with
  | [.inl c] => R32 c ∧ Q (some (.inl (kdZ c))) σ
  | _ => False
def mT_X6_kindOfSort (i : Nat) : Option (Nat × Bool × MSpec) := match i with
  | _ => none
theorem mT_X6_kindOfSort_ok {l : Launch} {n : Nat} (hn : 0 ≤ n) : ∀ i e, mT_X6_kindOfSort i = some e → mV l (rmOf n) RX6 i e := by
  intro i e h
  unfold mT_X6_kindOfSort at h
  split at h
  · cases h
set_option maxRecDepth 100000 in
set_option maxHeartbeats 4000000 in
theorem ok_X6_kindOfSort : ∀ l n, 0 ≤ n → ∀ a σ Q, S_X6_kindOfSort a σ Q → AM l n yX6_kindOfSort cX6_kindOfSort 1 (some .int) a σ Q := by
  intro l n hn a σ Q hS
  unfold S_X6_kindOfSort at hS
  split at hS
  rotate_left
  · exact hS.elim
  rename_i c
  obtain ⟨⟨c1, c2⟩, hq⟩ := hS
  refine am_ofF 1 cpX6 mT_X6_kindOfSort (plainFor_of_name (by decide +kernel)) (rfl) (Nat.le_of_ble_eq_true rfl) (cpX6_ok) (mT_X6_kindOfSort_ok hn) (fun K hK => ?_)
  refine hK (fun _ => false) 200 _ _ _ _ ?_
  simp only [↓wp, ↓stp, ilen, lnth, st1, st2, nolong, nohead, rnth, ↓gfX, ↓pfX, gfV, pfV, cpF, cpP, cndZ, ↓tgo, ↓tsw, ↓lsw, ↓ldI, ↓ldA, ↓ldL, ↓stI, ↓stA, ↓stL, ↓bin, ↓binD, ↓binL, ↓binDL, ↓una, ↓acV, ↓acK, ↓acpy, ↓inv, entL, nones, List.length_cons, List.length_nil, List.take, List.drop, List.reverse_cons, List.reverse_nil, List.nil_append, List.cons_append, Option.toList_some, Option.toList_none, Nat.reduceAdd, Nat.reduceSub, Nat.reduceLT, Nat.reduceEqDiff, Fin.isValue, aTL, aSZ, Int.toNat_natCast, hset_same, hset_o, hset_s, hset_row, ne_eq, Nat.reduceBEq, beq_self_eq_true, Fin.val_zero, Fin.val_one, fin0, fin1, fin2, fin3, Nat.le_refl, Nat.reduceLeDiff, Nat.zero_le, Int.reduceAdd, Int.reduceNeg, Int.reduceLE, Int.reduceLT, Int.reduceToNat, Int.reduceMul, Int.cast_ofNat_Int, Nat.reduceMod, ↓reduceIte, if_true, if_false, and_true, true_and, or_true, true_or, false_or, or_false, and_self, not_true_eq_false, not_false_eq_true, Bool.false_eq_true, reduceCtorEq, false_implies, true_implies, implies_true, and_false, false_and, dX6_kindOfSort_0, dX6_kindOfSort_1, dX6_kindOfSort_52, dX6_kindOfSort_53, dX6_kindOfSort_54, dX6_kindOfSort_55, dX6_kindOfSort_56, dX6_kindOfSort_57, dX6_kindOfSort_58, dX6_kindOfSort_59, dX6_kindOfSort_60, dX6_kindOfSort_61, dX6_kindOfSort_62, dX6_kindOfSort_63, cpX6, mT_X6_kindOfSort, SHl_0, SHl_1, SHl_2, SHl_3, SHl_4, SHl_5, SHl_6, SHl_7, SHl_8, SHl_9, SHl_10, SHl_11, SHl_12, SHl_13, SHl_14, SHl_15, SHl_16, SHl_17, SHl_18, SHl_19, SHl_20, SHl_21, SHl_22, SHl_23, SHl_24, SHl_25, SHl_26, SHl_27, SHl_28, SHl_29, SHl_30, SHl_31, SHl_32, SHl_33, SHl_34, SHl_35, SHl_36, SHl_37, SHl_38, SHl_39, SHl_40, SHl_41, SHl_42, SHl_43, SHl_44, SHl_45, SHl_46, SHl_47, SHl_48, SHl_49, SHl_50, SHl_51, SHl_52, SHl_53, SHl_54, SHl_55, SHl_56, SHl_57]
  unfold kdZ at hq
  (repeat' (first | rfl | apply And.intro | intro _)) <;> first | omega | (repeat (first | rw [if_pos (by omega)] at hq | rw [if_neg (by omega)] at hq)) <;> exact hq
def S_X6_takeSort : MSpec := fun a σ Q => match a with
  | [.inr (.inl 5), .inr (.inl 22)] => R32 (σ 5 3) ∧ okV (vC σ 22) ∧ (σ 5 8 = 0 ∨ σ 5 8 = 1) ∧ (σ 5 9 = 0 ∨ σ 5 9 = 1) ∧ (if kdZ (σ 5 3) = 0 then Q (some (.inl 1)) σ else if 10 ≤ σ 22 1 then Q (some (.inl 3)) σ else ∀ τ, only σ τ (inP 22) → vC τ 22 = adC (vC σ 22) (kdZ (σ 5 3)) (σ 5 8) (σ 5 9) → (coOk σ 22 → coOk τ 22) → Q (some (.inl 0)) (hset (hset (hset (hset τ 5 8 0) 5 9 0) 5 7 (-1)) 5 6 4))
  | _ => False
theorem rc_X6_takeSort : ∀ a σ Q, S_X6_takeSort a σ Q → ∃ (p : Nat) (r : List AV), a = .inr (.inl p) :: r ∧ p < 76 ∧ (SH p).1 = 4 ∧ (SH p).2.1 = 5 := by
  intro a σ Q h
  unfold S_X6_takeSort at h
  split at h
  · exact ⟨5, _, rfl, by decide, rfl, rfl⟩
  · exact h.elim
theorem kdZ_b (c : Int) : 0 ≤ kdZ c ∧ kdZ c ≤ 5 := by
  unfold kdZ
  (repeat' split) <;> omega
def mT_X6_takeSort (i : Nat) : Option (Nat × Bool × MSpec) := match i with
  | 85 => some (1, false, S_X6_kindOfSort)
  | 92 => some (4, true, S_X4_addChord)
  | _ => none
theorem mT_X6_takeSort_ok {l : Launch} {n : Nat} (hn : 1 ≤ n) : ∀ i e, mT_X6_takeSort i = some e → mV l (rmOf n) RX6 i e := by
  intro i e h
  unfold mT_X6_takeSort at h
  split at h
  · cases h; exact mvS (lv := 0) mw_X6_kindOfSort (by omega) (by decide) (by decide +kernel) (Or.inl (gtm 405 (by decide +kernel) (by decide +kernel))) ok_X6_kindOfSort
  · cases h; exact mvI (lv := 0) (ci := 3) (T := TX4) (N := 9) mw_X4_addChord rfl (by omega) (by decide) (by decide +kernel) (gtm 408 (by decide +kernel) (by decide +kernel)) rc_X4_addChord ok_X4_addChord
  · cases h
set_option maxRecDepth 100000 in
set_option maxHeartbeats 4000000 in
theorem ok_X6_takeSort : ∀ l n, 1 ≤ n → ∀ a σ Q, S_X6_takeSort a σ Q → AM l n yX6_takeSort cX6_takeSort 3 (some .int) a σ Q := by
  intro l n hn a σ Q hS
  unfold S_X6_takeSort at hS
  split at hS
  rotate_left
  · exact hS.elim
  obtain ⟨⟨a1, a2⟩, hV, hb, hf, hq⟩ := hS
  refine am_ofF 1 cpX6 mT_X6_takeSort (plainFor_of_name (by decide +kernel)) (rfl) (Nat.le_of_ble_eq_true rfl) (cpX6_ok) (mT_X6_takeSort_ok hn) (fun K hK => ?_)
  refine hK (fun _ => false) 200 _ _ _ _ ?_
  simp only [↓wp, ↓stp, ilen, lnth, st1, st2, nolong, nohead, rnth, ↓gfX, ↓pfX, gfV, pfV, cpF, cpP, cndZ, ↓tgo, ↓tsw, ↓lsw, ↓ldI, ↓ldA, ↓ldL, ↓stI, ↓stA, ↓stL, ↓bin, ↓binD, ↓binL, ↓binDL, ↓una, ↓acV, ↓acK, ↓acpy, ↓inv, entL, nones, List.length_cons, List.length_nil, List.take, List.drop, List.reverse_cons, List.reverse_nil, List.nil_append, List.cons_append, Option.toList_some, Option.toList_none, Nat.reduceAdd, Nat.reduceSub, Nat.reduceLT, Nat.reduceEqDiff, Fin.isValue, aTL, aSZ, Int.toNat_natCast, hset_same, hset_o, hset_s, hset_row, ne_eq, Nat.reduceBEq, beq_self_eq_true, Fin.val_zero, Fin.val_one, fin0, fin1, fin2, fin3, Nat.le_refl, Nat.reduceLeDiff, Nat.zero_le, Int.reduceAdd, Int.reduceNeg, Int.reduceLE, Int.reduceLT, Int.reduceToNat, Int.reduceMul, Int.cast_ofNat_Int, Nat.reduceMod, ↓reduceIte, if_true, if_false, and_true, true_and, or_true, true_or, false_or, or_false, and_self, not_true_eq_false, not_false_eq_true, Bool.false_eq_true, reduceCtorEq, false_implies, true_implies, implies_true, and_false, false_and, dX6_takeSort_0, dX6_takeSort_1, dX6_takeSort_4, dX6_takeSort_7, dX6_takeSort_8, dX6_takeSort_9, dX6_takeSort_12, dX6_takeSort_13, dX6_takeSort_14, dX6_takeSort_15, dX6_takeSort_18, dX6_takeSort_20, dX6_takeSort_23, dX6_takeSort_24, dX6_takeSort_25, dX6_takeSort_26, dX6_takeSort_27, dX6_takeSort_28, dX6_takeSort_31, dX6_takeSort_32, dX6_takeSort_35, dX6_takeSort_38, dX6_takeSort_39, dX6_takeSort_40, dX6_takeSort_43, dX6_takeSort_44, dX6_takeSort_45, dX6_takeSort_48, dX6_takeSort_49, dX6_takeSort_50, dX6_takeSort_53, dX6_takeSort_54, dX6_takeSort_55, dX6_takeSort_58, dX6_takeSort_59, cpX6, mT_X6_takeSort, SHl_0, SHl_1, SHl_2, SHl_3, SHl_4, SHl_5, SHl_6, SHl_7, SHl_8, SHl_9, SHl_10, SHl_11, SHl_12, SHl_13, SHl_14, SHl_15, SHl_16, SHl_17, SHl_18, SHl_19, SHl_20, SHl_21, SHl_22, SHl_23, SHl_24, SHl_25, SHl_26, SHl_27, SHl_28, SHl_29, SHl_30, SHl_31, SHl_32, SHl_33, SHl_34, SHl_35, SHl_36, SHl_37, SHl_38, SHl_39, SHl_40, SHl_41, SHl_42, SHl_43, SHl_44, SHl_45, SHl_46, SHl_47, SHl_48, SHl_49, SHl_50, SHl_51, SHl_52, SHl_53, SHl_54, SHl_55, SHl_56, SHl_57, S_X4_addChord, S_X6_kindOfSort]
  obtain ⟨v0, v1, v2⟩ := vC_0 σ 22
  have o2 := hV.2.1
  have hk := kdZ_b (σ 5 3)
  generalize kdZ (σ 5 3) = kd at *
  (repeat' (first | exact hV | exact hb | exact hf | apply And.intro | intro _)) <;> first | omega | (repeat (first | rw [if_pos (by omega)] at hq | rw [if_neg (by omega)] at hq)) <;> first | exact hq | exact hq _ ‹_› ‹_› ‹_›
def S_X6_takeLetter : MSpec := fun a σ Q => match a with
  | [.inr (.inl 5), .inr (.inl 22)] => R32 (σ 5 3) ∧ R32 (σ 5 6) ∧ (if σ 5 3 = 98 ∧ σ 5 6 = 6 then Q (some (.inl 0)) (hset (hset σ 5 8 1) 5 6 7) else if σ 5 3 = 102 ∧ σ 5 6 ≠ 3 then Q (some (.inl 0)) (hset (hset σ 5 9 1) 5 6 9) else S_X6_takeSort [.inr (.inl 5), .inr (.inl 22)] σ Q)
  | _ => False
theorem rc_X6_takeLetter : ∀ a σ Q, S_X6_takeLetter a σ Q → ∃ (p : Nat) (r : List AV), a = .inr (.inl p) :: r ∧ p < 76 ∧ (SH p).1 = 4 ∧ (SH p).2.1 = 5 := by
  intro a σ Q h
  unfold S_X6_takeLetter at h
  split at h
  · exact ⟨5, _, rfl, by decide, rfl, rfl⟩
  · exact h.elim
def mT_X6_takeLetter (i : Nat) : Option (Nat × Bool × MSpec) := match i with
  | 82 => some (2, true, S_X6_takeSort)
  | _ => none
theorem mT_X6_takeLetter_ok {l : Launch} {n : Nat} (hn : 2 ≤ n) : ∀ i e, mT_X6_takeLetter i = some e → mV l (rmOf n) RX6 i e := by
  intro i e h
  unfold mT_X6_takeLetter at h
  split at h
  · cases h; exact mvI (lv := 1) (ci := 5) (T := TX6) (N := 10) mw_X6_takeSort rfl (by omega) (by decide) (by decide +kernel) (gtm 401 (by decide +kernel) (by decide +kernel)) rc_X6_takeSort ok_X6_takeSort
  · cases h
set_option maxRecDepth 100000 in
set_option maxHeartbeats 4000000 in
theorem ok_X6_takeLetter : ∀ l n, 2 ≤ n → ∀ a σ Q, S_X6_takeLetter a σ Q → AM l n yX6_takeLetter cX6_takeLetter 2 (some .int) a σ Q := by
  intro l n hn a σ Q hS
  unfold S_X6_takeLetter at hS
  split at hS
  rotate_left
  · exact hS.elim
  obtain ⟨⟨a1, a2⟩, ⟨w1, w2⟩, hq⟩ := hS
  refine am_ofF 1 cpX6 mT_X6_takeLetter (plainFor_of_name (by decide +kernel)) (rfl) (Nat.le_of_ble_eq_true rfl) (cpX6_ok) (mT_X6_takeLetter_ok hn) (fun K hK => ?_)
  refine hK (fun _ => false) 200 _ _ _ _ ?_
  simp only [↓wp, ↓stp, ilen, lnth, st1, st2, nolong, nohead, rnth, ↓gfX, ↓pfX, gfV, pfV, cpF, cpP, cndZ, ↓tgo, ↓tsw, ↓lsw, ↓ldI, ↓ldA, ↓ldL, ↓stI, ↓stA, ↓stL, ↓bin, ↓binD, ↓binL, ↓binDL, ↓una, ↓acV, ↓acK, ↓acpy, ↓inv, entL, nones, List.length_cons, List.length_nil, List.take, List.drop, List.reverse_cons, List.reverse_nil, List.nil_append, List.cons_append, Option.toList_some, Option.toList_none, Nat.reduceAdd, Nat.reduceSub, Nat.reduceLT, Nat.reduceEqDiff, Fin.isValue, aTL, aSZ, Int.toNat_natCast, hset_same, hset_o, hset_s, hset_row, ne_eq, Nat.reduceBEq, beq_self_eq_true, Fin.val_zero, Fin.val_one, fin0, fin1, fin2, fin3, Nat.le_refl, Nat.reduceLeDiff, Nat.zero_le, Int.reduceAdd, Int.reduceNeg, Int.reduceLE, Int.reduceLT, Int.reduceToNat, Int.reduceMul, Int.cast_ofNat_Int, Nat.reduceMod, ↓reduceIte, if_true, if_false, and_true, true_and, or_true, true_or, false_or, or_false, and_self, not_true_eq_false, not_false_eq_true, Bool.false_eq_true, reduceCtorEq, false_implies, true_implies, implies_true, and_false, false_and, dX6_takeLetter_0, dX6_takeLetter_1, dX6_takeLetter_4, dX6_takeLetter_6, dX6_takeLetter_9, dX6_takeLetter_10, dX6_takeLetter_13, dX6_takeLetter_15, dX6_takeLetter_18, dX6_takeLetter_19, dX6_takeLetter_20, dX6_takeLetter_23, dX6_takeLetter_24, dX6_takeLetter_26, dX6_takeLetter_29, dX6_takeLetter_30, dX6_takeLetter_31, dX6_takeLetter_32, dX6_takeLetter_35, dX6_takeLetter_37, dX6_takeLetter_40, dX6_takeLetter_41, dX6_takeLetter_44, dX6_takeLetter_45, dX6_takeLetter_48, dX6_takeLetter_49, dX6_takeLetter_50, dX6_takeLetter_53, dX6_takeLetter_54, dX6_takeLetter_56, dX6_takeLetter_59, dX6_takeLetter_60, dX6_takeLetter_61, dX6_takeLetter_62, dX6_takeLetter_63, dX6_takeLetter_66, cpX6, mT_X6_takeLetter, SHl_0, SHl_1, SHl_2, SHl_3, SHl_4, SHl_5, SHl_6, SHl_7, SHl_8, SHl_9, SHl_10, SHl_11, SHl_12, SHl_13, SHl_14, SHl_15, SHl_16, SHl_17, SHl_18, SHl_19, SHl_20, SHl_21, SHl_22, SHl_23, SHl_24, SHl_25, SHl_26, SHl_27, SHl_28, SHl_29, SHl_30, SHl_31, SHl_32, SHl_33, SHl_34, SHl_35, SHl_36, SHl_37, SHl_38, SHl_39, SHl_40, SHl_41, SHl_42, SHl_43, SHl_44, SHl_45, SHl_46, SHl_47, SHl_48, SHl_49, SHl_50, SHl_51, SHl_52, SHl_53, SHl_54, SHl_55, SHl_56, SHl_57, S_X6_takeSort]
  have f1 : σ 5 3 = 98 ∧ σ 5 6 = 6 → Q (some (.inl 0)) (hset (hset σ 5 8 1) 5 6 7) := fun h => by rw [if_pos h] at hq; exact hq
  have f2 : σ 5 3 = 102 ∧ σ 5 6 ≠ 3 → Q (some (.inl 0)) (hset (hset σ 5 9 1) 5 6 9) := fun h => by rw [if_neg (by omega), if_pos h] at hq; exact hq
  have f3 : ¬ (σ 5 3 = 98 ∧ σ 5 6 = 6) → ¬ (σ 5 3 = 102 ∧ σ 5 6 ≠ 3) → S_X6_takeSort [.inr (.inl 5), .inr (.inl 22)] σ Q := fun h h' => by rw [if_neg h, if_neg h'] at hq; exact hq
  (repeat' (first | exact f1 (by omega) | exact f2 (by omega) | exact f3 (by omega) (by omega) | apply And.intro | intro _)) <;> omega
def S_X6_stepF : MSpec := fun a σ Q => match a with
  | [.inr (.inl 5), .inr (.inl 22)] => (0 ≤ σ 5 6 ∧ σ 5 6 ≤ 9) ∧ (if σ 5 6 = 0 then S_X6_want [.inr (.inl 5), .inl 107, .inl 1] σ Q else if σ 5 6 = 1 then S_X6_takeSignature [.inr (.inl 5), .inr (.inl 22)] σ Q else if σ 5 6 = 2 then S_X6_want [.inr (.inl 5), .inl 59, .inl 3] σ Q else if σ 5 6 = 7 then S_X6_want [.inr (.inl 5), .inl 59, .inl 8] σ Q else if σ 5 6 = 9 then S_X6_want [.inr (.inl 5), .inl 59, .inl 3] σ Q else if σ 5 6 = 4 then S_X6_takeKey [.inr (.inl 5), .inr (.inl 22)] σ Q else if σ 5 6 = 5 then S_X6_endKey [.inr (.inl 5), .inr (.inl 22)] σ Q else S_X6_takeLetter [.inr (.inl 5), .inr (.inl 22)] σ Q)
  | _ => False
def mT_X6_step (i : Nat) : Option (Nat × Bool × MSpec) := match i with
  | 60 => some (3, true, S_X6_want)
  | 64 => some (2, true, S_X6_takeSignature)
  | 67 => some (2, true, S_X6_takeKey)
  | 70 => some (2, true, S_X6_endKey)
  | 73 => some (2, true, S_X6_takeLetter)
  | _ => none
theorem mT_X6_step_ok {l : Launch} {n : Nat} (hn : 3 ≤ n) : ∀ i e, mT_X6_step i = some e → mV l (rmOf n) RX6 i e := by
  intro i e h
  unfold mT_X6_step at h
  split at h
  · cases h; exact mvI (lv := 0) (ci := 5) (T := TX6) (N := 10) mw_X6_want rfl (by omega) (by decide) (by decide +kernel) (gtm 367 (by decide +kernel) (by decide +kernel)) rc_X6_want ok_X6_want
  · cases h; exact mvI (lv := 1) (ci := 5) (T := TX6) (N := 10) mw_X6_takeSignature rfl (by omega) (by decide) (by decide +kernel) (gtm 371 (by decide +kernel) (by decide +kernel)) rc_X6_takeSignature ok_X6_takeSignature
  · cases h; exact mvI (lv := 1) (ci := 5) (T := TX6) (N := 10) mw_X6_takeKey rfl (by omega) (by decide) (by decide +kernel) (gtm 378 (by decide +kernel) (by decide +kernel)) rc_X6_takeKey ok_X6_takeKey
  · cases h; exact mvI (lv := 1) (ci := 5) (T := TX6) (N := 10) mw_X6_endKey rfl (by omega) (by decide) (by decide +kernel) (gtm 389 (by decide +kernel) (by decide +kernel)) rc_X6_endKey ok_X6_endKey
  · cases h; exact mvI (lv := 2) (ci := 5) (T := TX6) (N := 10) mw_X6_takeLetter rfl (by omega) (by decide) (by decide +kernel) (gtm 397 (by decide +kernel) (by decide +kernel)) rc_X6_takeLetter ok_X6_takeLetter
  · cases h
set_option maxRecDepth 100000 in
set_option maxHeartbeats 4000000 in
theorem okF_X6_step : ∀ l n, 3 ≤ n → ∀ a σ Q, S_X6_stepF a σ Q → AM l n yX6_step cX6_step 2 (some .int) a σ Q := by
  intro l n hn a σ Q hS
  unfold S_X6_stepF at hS
  split at hS
  rotate_left
  · exact hS.elim
  obtain ⟨hw, hq⟩ := hS
  refine am_ofF 1 cpX6 mT_X6_step (plainFor_of_name (by decide +kernel)) (rfl) (Nat.le_of_ble_eq_true rfl) (cpX6_ok) (mT_X6_step_ok hn) (fun K hK => ?_)
  refine hK (fun _ => false) 200 _ _ _ _ ?_
  simp only [↓wp, ↓stp, ilen, lnth, st1, st2, nolong, nohead, rnth, ↓gfX, ↓pfX, gfV, pfV, cpF, cpP, cndZ, ↓tgo, ↓tsw, ↓lsw, ↓ldI, ↓ldA, ↓ldL, ↓stI, ↓stA, ↓stL, ↓bin, ↓binD, ↓binL, ↓binDL, ↓una, ↓acV, ↓acK, ↓acpy, ↓inv, entL, nones, List.length_cons, List.length_nil, List.take, List.drop, List.reverse_cons, List.reverse_nil, List.nil_append, List.cons_append, Option.toList_some, Option.toList_none, Nat.reduceAdd, Nat.reduceSub, Nat.reduceLT, Nat.reduceEqDiff, Fin.isValue, aTL, aSZ, Int.toNat_natCast, hset_same, hset_o, hset_s, hset_row, ne_eq, Nat.reduceBEq, beq_self_eq_true, Fin.val_zero, Fin.val_one, fin0, fin1, fin2, fin3, Nat.le_refl, Nat.reduceLeDiff, Nat.zero_le, Int.reduceAdd, Int.reduceNeg, Int.reduceLE, Int.reduceLT, Int.reduceToNat, Int.reduceMul, Int.cast_ofNat_Int, Nat.reduceMod, ↓reduceIte, if_true, if_false, and_true, true_and, or_true, true_or, false_or, or_false, and_self, not_true_eq_false, not_false_eq_true, Bool.false_eq_true, reduceCtorEq, false_implies, true_implies, implies_true, and_false, false_and, dX6_step_0, dX6_step_1, dX6_step_4, dX6_step_60, dX6_step_61, dX6_step_63, dX6_step_64, dX6_step_67, dX6_step_68, dX6_step_69, dX6_step_70, dX6_step_73, dX6_step_74, dX6_step_75, dX6_step_77, dX6_step_78, dX6_step_81, dX6_step_82, dX6_step_83, dX6_step_85, dX6_step_87, dX6_step_90, dX6_step_91, dX6_step_92, dX6_step_94, dX6_step_95, dX6_step_98, dX6_step_99, dX6_step_100, dX6_step_101, dX6_step_104, dX6_step_105, dX6_step_106, dX6_step_107, dX6_step_110, dX6_step_111, dX6_step_112, dX6_step_113, dX6_step_116, cpX6, mT_X6_step, SHl_0, SHl_1, SHl_2, SHl_3, SHl_4, SHl_5, SHl_6, SHl_7, SHl_8, SHl_9, SHl_10, SHl_11, SHl_12, SHl_13, SHl_14, SHl_15, SHl_16, SHl_17, SHl_18, SHl_19, SHl_20, SHl_21, SHl_22, SHl_23, SHl_24, SHl_25, SHl_26, SHl_27, SHl_28, SHl_29, SHl_30, SHl_31, SHl_32, SHl_33, SHl_34, SHl_35, SHl_36, SHl_37, SHl_38, SHl_39, SHl_40, SHl_41, SHl_42, SHl_43, SHl_44, SHl_45, SHl_46, SHl_47, SHl_48, SHl_49, SHl_50, SHl_51, SHl_52, SHl_53, SHl_54, SHl_55, SHl_56, SHl_57, S_X6_endKey, S_X6_takeKey, S_X6_takeLetter, S_X6_takeSignature, S_X6_want]
  have f0 : σ 5 6 = 0 → S_X6_want [.inr (.inl 5), .inl 107, .inl 1] σ Q := fun h => by rw [if_pos h] at hq; exact hq
  have f1 : σ 5 6 = 1 → S_X6_takeSignature [.inr (.inl 5), .inr (.inl 22)] σ Q := fun h => by rw [if_neg (by omega), if_pos h] at hq; exact hq
  have f2 : σ 5 6 = 2 → S_X6_want [.inr (.inl 5), .inl 59, .inl 3] σ Q := fun h => by rw [if_neg (by omega), if_neg (by omega), if_pos h] at hq; exact hq
  have f7 : σ 5 6 = 7 → S_X6_want [.inr (.inl 5), .inl 59, .inl 8] σ Q := fun h => by rw [if_neg (by omega), if_neg (by omega), if_neg (by omega), if_pos h] at hq; exact hq
  have f9 : σ 5 6 = 9 → S_X6_want [.inr (.inl 5), .inl 59, .inl 3] σ Q := fun h => by rw [if_neg (by omega), if_neg (by omega), if_neg (by omega), if_neg (by omega), if_pos h] at hq; exact hq
  have f4 : σ 5 6 = 4 → S_X6_takeKey [.inr (.inl 5), .inr (.inl 22)] σ Q := fun h => by rw [if_neg (by omega), if_neg (by omega), if_neg (by omega), if_neg (by omega), if_neg (by omega), if_pos h] at hq; exact hq
  have f5 : σ 5 6 = 5 → S_X6_endKey [.inr (.inl 5), .inr (.inl 22)] σ Q := fun h => by rw [if_neg (by omega), if_neg (by omega), if_neg (by omega), if_neg (by omega), if_neg (by omega), if_neg (by omega), if_pos h] at hq; exact hq
  have f3 : (σ 5 6 = 3 ∨ σ 5 6 = 6 ∨ σ 5 6 = 8) → S_X6_takeLetter [.inr (.inl 5), .inr (.inl 22)] σ Q := fun h => by rw [if_neg (by omega), if_neg (by omega), if_neg (by omega), if_neg (by omega), if_neg (by omega), if_neg (by omega), if_neg (by omega)] at hq; exact hq
  clear hq
  (repeat' (first | exact f0 (by omega) | exact f1 (by omega) | exact f2 (by omega) | exact f7 (by omega) | exact f9 (by omega) | exact f4 (by omega) | exact f5 (by omega) | exact f3 (by omega) | (exfalso; omega; done) | apply And.intro | intro _)) <;> omega

