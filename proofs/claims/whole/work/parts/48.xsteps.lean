/-! ===== the class: a piece grows, token by token ===== -/
def S_X4_clear : MSpec := fun a σ Q => match a with
  | [.inr (.inl 22)] => Q none (hset (hset (hset σ 22 0 0) 22 1 0) 22 2 0)
  | _ => False
theorem rc_X4_clear : ∀ a σ Q, S_X4_clear a σ Q → ∃ (p : Nat) (r : List AV), a = .inr (.inl p) :: r ∧ p < 76 ∧ (SH p).1 = 4 ∧ (SH p).2.1 = 3 := by
  intro a σ Q h
  unfold S_X4_clear at h
  split at h
  · exact ⟨22, _, rfl, by decide, rfl, rfl⟩
  · exact h.elim
def mT_X4_clear (i : Nat) : Option (Nat × Bool × MSpec) := match i with
  | _ => none
theorem mT_X4_clear_ok {l : Launch} {n : Nat} (hn : 0 ≤ n) : ∀ i e, mT_X4_clear i = some e → mV l (rmOf n) RX4 i e := by
  intro i e h
  unfold mT_X4_clear at h
  split at h
  · cases h
set_option maxRecDepth 100000 in
set_option maxHeartbeats 4000000 in
theorem ok_X4_clear : ∀ l n, 0 ≤ n → ∀ a σ Q, S_X4_clear a σ Q → AM l n yX4_clear cX4_clear 1 none a σ Q := by
  intro l n hn a σ Q hS
  unfold S_X4_clear at hS
  split at hS
  rotate_left
  · exact hS.elim
  obtain hq := hS
  refine am_ofF 0 cpX4 mT_X4_clear (plainFor_of_name (by decide +kernel)) (rfl) (Nat.le_of_ble_eq_true rfl) (cpX4_ok) (mT_X4_clear_ok hn) (fun K hK => ?_)
  refine hK (fun _ => false) 200 _ _ _ _ ?_
  simp only [↓wp, ↓stp, ilen, lnth, st1, st2, nolong, nohead, rnth, ↓gfX, ↓pfX, gfV, pfV, cpF, cpP, cndZ, ↓tgo, ↓tsw, ↓lsw, ↓ldI, ↓ldA, ↓ldL, ↓stI, ↓stA, ↓stL, ↓bin, ↓binD, ↓binL, ↓binDL, ↓una, ↓acV, ↓acK, ↓acpy, ↓inv, entL, nones, List.length_cons, List.length_nil, List.take, List.drop, List.reverse_cons, List.reverse_nil, List.nil_append, List.cons_append, Option.toList_some, Option.toList_none, Nat.reduceAdd, Nat.reduceSub, Nat.reduceLT, Nat.reduceEqDiff, Fin.isValue, aTL, aSZ, Int.toNat_natCast, hset_same, hset_o, hset_s, hset_row, ne_eq, Nat.reduceBEq, beq_self_eq_true, Fin.val_zero, Fin.val_one, fin0, fin1, fin2, fin3, Nat.le_refl, Nat.reduceLeDiff, Nat.zero_le, Int.reduceAdd, Int.reduceNeg, Int.reduceLE, Int.reduceLT, Int.reduceToNat, Int.reduceMul, Int.cast_ofNat_Int, Nat.reduceMod, ↓reduceIte, if_true, if_false, and_true, true_and, or_true, true_or, false_or, or_false, and_self, not_true_eq_false, not_false_eq_true, Bool.false_eq_true, reduceCtorEq, false_implies, true_implies, implies_true, and_false, false_and, dX4_clear_0, dX4_clear_1, dX4_clear_2, dX4_clear_5, dX4_clear_6, dX4_clear_7, dX4_clear_10, dX4_clear_11, dX4_clear_12, dX4_clear_15, cpX4, mT_X4_clear, SHl_0, SHl_1, SHl_2, SHl_3, SHl_4, SHl_5, SHl_6, SHl_7, SHl_8, SHl_9, SHl_10, SHl_11, SHl_12, SHl_13, SHl_14, SHl_15, SHl_16, SHl_17, SHl_18, SHl_19, SHl_20, SHl_21, SHl_22, SHl_23, SHl_24, SHl_25, SHl_26, SHl_27, SHl_28, SHl_29, SHl_30, SHl_31, SHl_32, SHl_33, SHl_34, SHl_35, SHl_36, SHl_37, SHl_38, SHl_39, SHl_40, SHl_41, SHl_42, SHl_43, SHl_44, SHl_45, SHl_46, SHl_47, SHl_48, SHl_49, SHl_50, SHl_51, SHl_52, SHl_53, SHl_54, SHl_55, SHl_56, SHl_57]
  exact hS
/-- a chord that is open: j keys so far -/
def opP (D D0 : HP) (j : Nat) : Prop := ∃ kd b f g, D = opD D0 kd b f g j ∧ okV D0 ∧ D0 0 1 < 10 ∧ (1 ≤ kd ∧ kd ≤ 5) ∧ (b = 0 ∨ b = 1) ∧ (f = 0 ∨ f = 1) ∧ (D0 0 1 = 0 → b = 1 ∧ f = 1) ∧ (∀ i, i < j → 0 ≤ g i ∧ g i < 12) ∧ D0 0 2 ≤ 4 * D0 0 1
def S_X4_addChord : MSpec := fun a σ Q => match a with
  | [.inr (.inl 22), .inl kd, .inl b, .inl f] => okV (vC σ 22) ∧ σ 22 1 < 10 ∧ (b = 0 ∨ b = 1) ∧ (f = 0 ∨ f = 1) ∧ ∀ τ, only σ τ (inP 22) → vC τ 22 = adC (vC σ 22) kd b f → (coOk σ 22 → coOk τ 22) → Q none τ
  | _ => False
theorem rc_X4_addChord : ∀ a σ Q, S_X4_addChord a σ Q → ∃ (p : Nat) (r : List AV), a = .inr (.inl p) :: r ∧ p < 76 ∧ (SH p).1 = 4 ∧ (SH p).2.1 = 3 := by
  intro a σ Q h
  unfold S_X4_addChord at h
  split at h
  · exact ⟨22, _, rfl, by decide, rfl, rfl⟩
  · exact h.elim
def mT_X4_addChord (i : Nat) : Option (Nat × Bool × MSpec) := match i with
  | _ => none
theorem mT_X4_addChord_ok {l : Launch} {n : Nat} (hn : 0 ≤ n) : ∀ i e, mT_X4_addChord i = some e → mV l (rmOf n) RX4 i e := by
  intro i e h
  unfold mT_X4_addChord at h
  split at h
  · cases h
set_option maxRecDepth 100000 in
set_option maxHeartbeats 4000000 in
theorem ok_X4_addChord : ∀ l n, 0 ≤ n → ∀ a σ Q, S_X4_addChord a σ Q → AM l n yX4_addChord cX4_addChord 4 none a σ Q := by
  intro l n hn a σ Q hS
  unfold S_X4_addChord at hS
  split at hS
  rotate_left
  · exact hS.elim
  rename_i kd b f
  obtain ⟨hV, n1, hb, hf, hq⟩ := hS
  refine am_ofF 0 cpX4 mT_X4_addChord (plainFor_of_name (by decide +kernel)) (rfl) (Nat.le_of_ble_eq_true rfl) (cpX4_ok) (mT_X4_addChord_ok hn) (fun K hK => ?_)
  refine hK (fun _ => false) 200 _ _ _ _ ?_
  simp only [↓wp, ↓stp, ilen, lnth, st1, st2, nolong, nohead, rnth, ↓gfX, ↓pfX, gfV, pfV, cpF, cpP, cndZ, ↓tgo, ↓tsw, ↓lsw, ↓ldI, ↓ldA, ↓ldL, ↓stI, ↓stA, ↓stL, ↓bin, ↓binD, ↓binL, ↓binDL, ↓una, ↓acV, ↓acK, ↓acpy, ↓inv, entL, nones, List.length_cons, List.length_nil, List.take, List.drop, List.reverse_cons, List.reverse_nil, List.nil_append, List.cons_append, Option.toList_some, Option.toList_none, Nat.reduceAdd, Nat.reduceSub, Nat.reduceLT, Nat.reduceEqDiff, Fin.isValue, aTL, aSZ, Int.toNat_natCast, hset_same, hset_o, hset_s, hset_row, ne_eq, Nat.reduceBEq, beq_self_eq_true, Fin.val_zero, Fin.val_one, fin0, fin1, fin2, fin3, Nat.le_refl, Nat.reduceLeDiff, Nat.zero_le, Int.reduceAdd, Int.reduceNeg, Int.reduceLE, Int.reduceLT, Int.reduceToNat, Int.reduceMul, Int.cast_ofNat_Int, Nat.reduceMod, ↓reduceIte, if_true, if_false, and_true, true_and, or_true, true_or, false_or, or_false, and_self, not_true_eq_false, not_false_eq_true, Bool.false_eq_true, reduceCtorEq, false_implies, true_implies, implies_true, and_false, false_and, dX4_addChord_0, dX4_addChord_1, dX4_addChord_4, dX4_addChord_6, dX4_addChord_9, dX4_addChord_10, dX4_addChord_13, dX4_addChord_14, dX4_addChord_17, dX4_addChord_18, dX4_addChord_19, dX4_addChord_20, dX4_addChord_23, dX4_addChord_24, dX4_addChord_27, dX4_addChord_28, dX4_addChord_31, dX4_addChord_32, dX4_addChord_35, dX4_addChord_36, dX4_addChord_37, dX4_addChord_38, dX4_addChord_41, dX4_addChord_42, dX4_addChord_45, dX4_addChord_46, dX4_addChord_49, dX4_addChord_50, dX4_addChord_53, dX4_addChord_54, dX4_addChord_55, dX4_addChord_56, dX4_addChord_59, dX4_addChord_60, dX4_addChord_63, dX4_addChord_64, dX4_addChord_67, dX4_addChord_68, dX4_addChord_69, dX4_addChord_70, dX4_addChord_73, dX4_addChord_74, dX4_addChord_75, dX4_addChord_78, dX4_addChord_79, dX4_addChord_82, dX4_addChord_83, dX4_addChord_86, dX4_addChord_87, dX4_addChord_90, dX4_addChord_91, cpX4, mT_X4_addChord, SHl_0, SHl_1, SHl_2, SHl_3, SHl_4, SHl_5, SHl_6, SHl_7, SHl_8, SHl_9, SHl_10, SHl_11, SHl_12, SHl_13, SHl_14, SHl_15, SHl_16, SHl_17, SHl_18, SHl_19, SHl_20, SHl_21, SHl_22, SHl_23, SHl_24, SHl_25, SHl_26, SHl_27, SHl_28, SHl_29, SHl_30, SHl_31, SHl_32, SHl_33, SHl_34, SHl_35, SHl_36, SHl_37, SHl_38, SHl_39, SHl_40, SHl_41, SHl_42, SHl_43, SHl_44, SHl_45, SHl_46, SHl_47, SHl_48, SHl_49, SHl_50, SHl_51, SHl_52, SHl_53, SHl_54, SHl_55, SHl_56, SHl_57]
  obtain ⟨v0, v1, v2⟩ := vC_0 σ 22
  obtain ⟨o1, o2, o3, o4, oc, on⟩ := id hV
  obtain ⟨k, hk⟩ : ∃ k : Nat, σ 22 1 = k := ⟨(σ 22 1).toNat, by omega⟩
  rw [hk]
  simp only [Int.toNat_natCast, show ((k : Int) + 1).toNat = k + 1 by omega]
  have h26 : 0 < k → σ 26 k = σ 22 2 := fun h => by
    have a := (oc (k - 1) (by omega)).2.2.2.2.2.2.2.2 (by omega)
    obtain ⟨-, -, -, e4, e5⟩ := vC_c (σ := σ) (p := 22) (c := k - 1) (by omega)
    rw [e4, e5, show k - 1 + 1 = k by omega] at a
    have a : σ 26 (k - 1) + (σ 26 k - σ 26 (k - 1)) = vC σ 22 0 2 := a
    omega
  have fin : ∀ b' f' : Int, b' = b → f' = f → Q none (hset (hset (hset (hset (hset (hset σ 23 k kd) 24 k b') 25 k f') 26 k (σ 22 2)) 22 1 ((k : Int) + 1)) 26 (k + 1) (σ 22 2)) := by
    intro b' f' hb' hf'
    subst hb'
    subst hf'
    generalize hτ : (hset (hset (hset (hset (hset (hset σ 23 k kd) 24 k b') 25 k f') 26 k (σ 22 2)) 22 1 ((k : Int) + 1)) 26 (k + 1) (σ 22 2)) = τ
    have t0 : τ 22 0 = σ 22 0 := by rw [← hτ]; rfl
    have t1 : τ 22 1 = (k : Int) + 1 := by rw [← hτ]; rfl
    have t2 : τ 22 2 = σ 22 2 := by rw [← hτ]; rfl
    have t3 : ∀ c, τ 23 c = if c = k then kd else σ 23 c := fun c => by
      rw [← hτ, hset_o (by decide), hset_o (by decide), hset_o (by decide), hset_o (by decide), hset_o (by decide), hset_at]
      simp
    have t4 : ∀ c, τ 24 c = if c = k then b' else σ 24 c := fun c => by
      rw [← hτ, hset_o (by decide), hset_o (by decide), hset_o (by decide), hset_o (by decide), hset_at, hset_o (by decide)]
      simp
    have t5 : ∀ c, τ 25 c = if c = k then f' else σ 25 c := fun c => by
      rw [← hτ, hset_o (by decide), hset_o (by decide), hset_o (by decide), hset_at, hset_o (by decide), hset_o (by decide)]
      simp
    have t6 : ∀ c, τ 26 c = if c = k + 1 then σ 22 2 else if c = k then σ 22 2 else σ 26 c := fun c => by
      rw [← hτ, hset_at, hset_o (by decide), hset_at, hset_o (by decide), hset_o (by decide), hset_o (by decide)]
      simp
    have t7 : τ 27 = σ 27 := by rw [← hτ]; rfl
    have t8 : τ 28 = σ 28 := by rw [← hτ]; rfl
    have hv : vC τ 22 = adC (vC σ 22) kd b' f' := by
      funext q c
      have e1 : vC σ 22 0 1 = (k : Int) := by rw [v1, hk]
      unfold adC
      rcases q with _ | _ | _ | _ | _ | _ | _ | q <;> simp only [opD, Nat.zero_add, Nat.reduceAdd, e1, v2]
      · by_cases h : c < 3
        · rcases (show c = 0 ∨ c = 1 ∨ c = 2 by omega) with rfl | rfl | rfl
          · simp [vC, t0]
          · simp [vC, t1]
          · simp [vC, t2]
        · rw [if_neg (by omega), if_neg (by omega)]
          simp [vC, h]
      · simp only [vC, t1, t3, hk, Nat.reduceAdd]
        (repeat' split) <;> first | rfl | omega
      · simp only [vC, t1, t4, hk, Nat.reduceAdd]
        (repeat' split) <;> first | rfl | omega
      · simp only [vC, t1, t5, hk, Nat.reduceAdd]
        (repeat' split) <;> first | rfl | omega
      · simp only [vC, t1, t6, hk, Nat.reduceAdd]
        (repeat' split) <;> first | rfl | omega
      · simp only [vC, t1, t6, hk, Nat.reduceAdd]
        by_cases h : c + 1 = k
        · have := h26 (by omega)
          rw [← h] at this
          (repeat' split) <;> first | rfl | omega
        · (repeat' split) <;> first | rfl | omega
      · simp only [vC, t2, t7, Nat.reduceAdd]
        (repeat' split) <;> first | rfl | omega
      · rfl
    refine hq τ (fun q hqq => ?_) hv (fun hco => ?_)
    · unfold inP at hqq
      rw [← hτ, hset_row (by omega), hset_row (by omega), hset_row (by omega), hset_row (by omega), hset_row (by omega), hset_row (by omega)]
    · intro c j hc hj
      rw [t1] at hc
      rw [hv] at hj ⊢
      by_cases h : c = k
      · subst h
        have : adC (vC σ 22) kd b' f' 5 c = ((0 : Nat) : Int) := by
          unfold adC
          show (if (c : Int) = vC σ 22 0 1 then ((0 : Nat) : Int) else _) = _
          rw [if_pos (by rw [v1, hk])]
        rw [this] at hj
        omega
      · have g5 : adC (vC σ 22) kd b' f' 5 c = vC σ 22 5 c := by
          unfold adC
          show (if (c : Int) = vC σ 22 0 1 then _ else _) = _
          rw [if_neg (by rw [v1, hk]; omega)]
        have g4 : adC (vC σ 22) kd b' f' 4 c = vC σ 22 4 c := by
          unfold adC
          show (if (c : Int) = vC σ 22 0 1 then _ else _) = _
          rw [if_neg (by rw [v1, hk]; omega)]
        rw [g5] at hj
        rw [g4]
        show τ 28 _ = _
        rw [t8]
        exact hco c j (by rw [hk]; omega) hj
  rcases hb with hb | hb <;> rcases hf with hf | hf <;> (repeat' (first | exact fin _ _ hb.symm hf.symm | apply And.intro | intro _)) <;> omega
