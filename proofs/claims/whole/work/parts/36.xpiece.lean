/-! ===== the class: becomeLike, moveBy, keep, takeBack ===== -/
theorem vC_cpy {σ τ : HP} {p o : Nat} (h0 : ∀ j, j < 3 → τ p j = σ o j) (h1 : ∀ i, 1 ≤ i → i ≤ 3 → ∀ j : Nat, (j : Int) < σ o 1 → τ (p + i) j = σ (o + i) j) (h4 : ∀ j : Nat, (j : Int) < σ o 1 + 1 → τ (p + 4) j = σ (o + 4) j) (h5 : ∀ j : Nat, (j : Int) < σ o 2 → τ (p + 5) j = σ (o + 5) j) : vC τ p = vC σ o := by
  have e1 := h0 1 (by omega)
  have e2 := h0 2 (by omega)
  funext k c
  rcases k with _ | _ | _ | _ | _ | _ | _ | k <;> simp only [vC, Nat.zero_add, Nat.reduceAdd, e1, e2]
  · split
    · exact h0 c (by omega)
    · rfl
  · split
    · exact h1 1 (by omega) (by omega) c ‹_›
    · rfl
  · split
    · exact h1 2 (by omega) (by omega) c ‹_›
    · rfl
  · split
    · exact h1 3 (by omega) (by omega) c ‹_›
    · rfl
  · split
    · exact h4 c (by omega)
    · rfl
  · split
    · rw [h4 c (by omega), h4 (c + 1) (by omega)]
    · rfl
  · split
    · exact h5 c ‹_›
    · rfl
theorem coOk_cpy {σ τ : HP} {p o : Nat} (hv : vC τ p = vC σ o) (hV : okV (vC σ o)) (h6 : ∀ j : Nat, (j : Int) < σ o 2 → τ (p + 6) j = σ (o + 6) j) (h : coOk σ o) : coOk τ p := by
  obtain ⟨a0, a1, a2⟩ := vC_0 τ p
  obtain ⟨b0, b1, b2⟩ := vC_0 σ o
  intro c j hc hj
  rw [hv] at hj a1 ⊢
  have := hV.2.2.2.2.1 c (by omega)
  rw [h6 _ (by omega)]
  exact h c j (by omega) hj
def inP (p : Nat) : Nat → Prop := fun q => p ≤ q ∧ q ≤ p + 6
def S_X4_becomeLike : MSpec := fun a σ Q => match a with
  | [.inr (.inl p), .inr (.inl o)] => isPc p ∧ isPc o ∧ (p + 6 < o ∨ o + 6 < p) ∧ okV (vC σ o) ∧ ∀ τ, only σ τ (inP p) → vC τ p = vC σ o → (coOk σ o → coOk τ p) → Q none τ
  | _ => False
theorem rc_X4_becomeLike : ∀ a σ Q, S_X4_becomeLike a σ Q → ∃ (p : Nat) (r : List AV), a = .inr (.inl p) :: r ∧ p < 76 ∧ (SH p).1 = 4 ∧ (SH p).2.1 = 3 := by
  intro a σ Q h
  unfold S_X4_becomeLike at h
  split at h
  · exact ⟨_, _, rfl, h.1.lt, by rw [h.1.1], by rw [h.1.1]⟩
  · exact h.elim
def mT_X4_becomeLike (i : Nat) : Option (Nat × Bool × MSpec) := match i with
  | _ => none
theorem mT_X4_becomeLike_ok {l : Launch} {n : Nat} (hn : 0 ≤ n) : ∀ i e, mT_X4_becomeLike i = some e → mV l (rmOf n) RX4 i e := by
  intro i e h
  unfold mT_X4_becomeLike at h
  split at h
  · cases h
set_option maxRecDepth 100000 in
set_option maxHeartbeats 4000000 in
theorem ok_X4_becomeLike : ∀ l n, 0 ≤ n → ∀ a σ Q, S_X4_becomeLike a σ Q → AM l n yX4_becomeLike cX4_becomeLike 2 none a σ Q := by
  intro l n hn a σ Q hS
  unfold S_X4_becomeLike at hS
  split at hS
  rotate_left
  · exact hS.elim
  rename_i p o
  obtain ⟨⟨k0, k1, k2, k3, k4, k5, k6, k7⟩, ⟨l0, l1, l2, l3, l4, l5, l6, l7⟩, hsep, hV, hq⟩ := hS
  refine am_ofF 0 cpX4 mT_X4_becomeLike (plainFor_of_name (by decide +kernel)) (rfl) (Nat.le_of_ble_eq_true rfl) (cpX4_ok) (mT_X4_becomeLike_ok hn) (fun K hK => ?_)
  refine hK (fun _ => false) 200 _ _ _ _ ?_
  simp only [↓wp, ↓stp, ilen, lnth, st1, st2, nolong, nohead, rnth, ↓gfX, ↓pfX, gfV, pfV, cpF, cpP, cndZ, ↓tgo, ↓tsw, ↓lsw, ↓ldI, ↓ldA, ↓ldL, ↓stI, ↓stA, ↓stL, ↓bin, ↓binD, ↓binL, ↓binDL, ↓una, ↓acV, ↓acK, ↓acpy, ↓inv, entL, nones, List.length_cons, List.length_nil, List.take, List.drop, List.reverse_cons, List.reverse_nil, List.nil_append, List.cons_append, Option.toList_some, Option.toList_none, Nat.reduceAdd, Nat.reduceSub, Nat.reduceLT, Nat.reduceEqDiff, Fin.isValue, aTL, aSZ, Int.toNat_natCast, hset_same, hset_o, hset_s, hset_row, ne_eq, Nat.reduceBEq, beq_self_eq_true, Fin.val_zero, Fin.val_one, fin0, fin1, fin2, fin3, Nat.le_refl, Nat.reduceLeDiff, Nat.zero_le, Int.reduceAdd, Int.reduceNeg, Int.reduceLE, Int.reduceLT, Int.reduceToNat, Int.reduceMul, Int.cast_ofNat_Int, Nat.reduceMod, ↓reduceIte, if_true, if_false, and_true, true_and, or_true, true_or, false_or, or_false, and_self, not_true_eq_false, not_false_eq_true, Bool.false_eq_true, reduceCtorEq, false_implies, true_implies, implies_true, and_false, false_and, dX4_becomeLike_0, dX4_becomeLike_1, dX4_becomeLike_2, dX4_becomeLike_5, dX4_becomeLike_8, dX4_becomeLike_9, dX4_becomeLike_10, dX4_becomeLike_13, dX4_becomeLike_16, dX4_becomeLike_17, dX4_becomeLike_18, dX4_becomeLike_21, dX4_becomeLike_24, dX4_becomeLike_25, dX4_becomeLike_28, dX4_becomeLike_29, dX4_becomeLike_30, dX4_becomeLike_33, dX4_becomeLike_34, dX4_becomeLike_35, dX4_becomeLike_38, dX4_becomeLike_41, dX4_becomeLike_42, dX4_becomeLike_45, dX4_becomeLike_46, dX4_becomeLike_47, dX4_becomeLike_50, dX4_becomeLike_51, dX4_becomeLike_52, dX4_becomeLike_55, dX4_becomeLike_58, dX4_becomeLike_59, dX4_becomeLike_62, dX4_becomeLike_63, dX4_becomeLike_64, dX4_becomeLike_67, dX4_becomeLike_68, dX4_becomeLike_69, dX4_becomeLike_72, dX4_becomeLike_75, dX4_becomeLike_76, dX4_becomeLike_79, dX4_becomeLike_80, dX4_becomeLike_81, dX4_becomeLike_84, dX4_becomeLike_85, dX4_becomeLike_86, dX4_becomeLike_89, dX4_becomeLike_90, dX4_becomeLike_91, dX4_becomeLike_94, dX4_becomeLike_95, dX4_becomeLike_98, dX4_becomeLike_99, dX4_becomeLike_100, dX4_becomeLike_103, dX4_becomeLike_104, dX4_becomeLike_105, dX4_becomeLike_108, dX4_becomeLike_111, dX4_becomeLike_112, dX4_becomeLike_115, dX4_becomeLike_116, dX4_becomeLike_117, dX4_becomeLike_120, dX4_becomeLike_121, dX4_becomeLike_122, dX4_becomeLike_125, dX4_becomeLike_128, cpX4, mT_X4_becomeLike, SHl_0, SHl_1, SHl_2, SHl_3, SHl_4, SHl_5, SHl_6, SHl_7, SHl_8, SHl_9, SHl_10, SHl_11, SHl_12, SHl_13, SHl_14, SHl_15, SHl_16, SHl_17, SHl_18, SHl_19, SHl_20, SHl_21, SHl_22, SHl_23, SHl_24, SHl_25, SHl_26, SHl_27, SHl_28, SHl_29, SHl_30, SHl_31, SHl_32, SHl_33, SHl_34, SHl_35, SHl_36, SHl_37, SHl_38, SHl_39, SHl_40, SHl_41, SHl_42, SHl_43, SHl_44, SHl_45, SHl_46, SHl_47, SHl_48, SHl_49, SHl_50, SHl_51, SHl_52, SHl_53, SHl_54, SHl_55, SHl_56, SHl_57, k0, k1, k2, k3, k4, k5, k6, l0, l1, l2, l3, l4, l5, l6, Nat.add_left_cancel_iff, ne_add, ne_add', Nat.zero_lt_succ, hcpy_f, (eq_false (show ¬ o = p by omega))]
  obtain ⟨b0, b1, b2⟩ := vC_0 σ o
  have o2 := hV.2.1
  have o3 := hV.2.2.1
  rw [b1] at o2
  rw [b2] at o3
  generalize hρ : (hset (hset (hset σ p 0 (σ o 0)) p 1 (σ o 1)) p 2 (σ o 2)) = ρ
  have r0 : ρ p 0 = σ o 0 := by rw [← hρ, hset_s (by decide), hset_s (by decide), hset_same]
  have r1 : ρ p 1 = σ o 1 := by rw [← hρ, hset_s (by decide), hset_same]
  have r2 : ρ p 2 = σ o 2 := by rw [← hρ, hset_same]
  have r3 : ∀ q, q ≠ p → ρ q = σ q := fun q hqq => by rw [← hρ, hset_row hqq, hset_row hqq, hset_row hqq]
  have fin : ∀ τ, τ = hcpy (hcpy (hcpy (hcpy (hcpy (hcpy ρ (o + 1) 0 (p + 1) 0 (σ o 1)) (o + 2) 0 (p + 2) 0 (σ o 1)) (o + 3) 0 (p + 3) 0 (σ o 1)) (o + 4) 0 (p + 4) 0 (σ o 1 + 1)) (o + 5) 0 (p + 5) 0 (σ o 2)) (o + 6) 0 (p + 6) 0 (σ o 2) → Q none τ := by
    intro τ hτ
    have t0 : τ p = ρ p := by
      rw [hτ, hcpy_f (by omega), hcpy_f (by omega), hcpy_f (by omega), hcpy_f (by omega), hcpy_f (by omega), hcpy_f (by omega)]
    have t1 : ∀ j : Nat, (j : Int) < σ o 1 → τ (p + 1) j = σ (o + 1) j := fun j hj => by
      rw [hτ, hcpy_f (by omega), hcpy_f (by omega), hcpy_f (by omega), hcpy_f (by omega), hcpy_f (by omega)]
      have := hcpy_in (σ := ρ) (f := o + 1) (t := p + 1) (a := 0) (b := 0) (n := σ o 1) j (by omega)
      simp only [Int.toNat_zero, Nat.zero_add] at this
      rw [this, r3 _ (by omega)]
    have t2 : ∀ j : Nat, (j : Int) < σ o 1 → τ (p + 2) j = σ (o + 2) j := fun j hj => by
      rw [hτ, hcpy_f (by omega), hcpy_f (by omega), hcpy_f (by omega), hcpy_f (by omega)]
      have := hcpy_in (σ := hcpy ρ (o + 1) 0 (p + 1) 0 (σ o 1)) (f := o + 2) (t := p + 2) (a := 0) (b := 0) (n := σ o 1) j (by omega)
      simp only [Int.toNat_zero, Nat.zero_add] at this
      rw [this, hcpy_f (by omega), r3 _ (by omega)]
    have t3 : ∀ j : Nat, (j : Int) < σ o 1 → τ (p + 3) j = σ (o + 3) j := fun j hj => by
      rw [hτ, hcpy_f (by omega), hcpy_f (by omega), hcpy_f (by omega)]
      have := hcpy_in (σ := hcpy (hcpy ρ (o + 1) 0 (p + 1) 0 (σ o 1)) (o + 2) 0 (p + 2) 0 (σ o 1)) (f := o + 3) (t := p + 3) (a := 0) (b := 0) (n := σ o 1) j (by omega)
      simp only [Int.toNat_zero, Nat.zero_add] at this
      rw [this, hcpy_f (by omega), hcpy_f (by omega), r3 _ (by omega)]
    have t4 : ∀ j : Nat, (j : Int) < σ o 1 + 1 → τ (p + 4) j = σ (o + 4) j := fun j hj => by
      rw [hτ, hcpy_f (by omega), hcpy_f (by omega)]
      have := hcpy_in (σ := hcpy (hcpy (hcpy ρ (o + 1) 0 (p + 1) 0 (σ o 1)) (o + 2) 0 (p + 2) 0 (σ o 1)) (o + 3) 0 (p + 3) 0 (σ o 1)) (f := o + 4) (t := p + 4) (a := 0) (b := 0) (n := σ o 1 + 1) j (by omega)
      simp only [Int.toNat_zero, Nat.zero_add] at this
      rw [this, hcpy_f (by omega), hcpy_f (by omega), hcpy_f (by omega), r3 _ (by omega)]
    have t5 : ∀ j : Nat, (j : Int) < σ o 2 → τ (p + 5) j = σ (o + 5) j := fun j hj => by
      rw [hτ, hcpy_f (by omega)]
      have := hcpy_in (σ := hcpy (hcpy (hcpy (hcpy ρ (o + 1) 0 (p + 1) 0 (σ o 1)) (o + 2) 0 (p + 2) 0 (σ o 1)) (o + 3) 0 (p + 3) 0 (σ o 1)) (o + 4) 0 (p + 4) 0 (σ o 1 + 1)) (f := o + 5) (t := p + 5) (a := 0) (b := 0) (n := σ o 2) j (by omega)
      simp only [Int.toNat_zero, Nat.zero_add] at this
      rw [this, hcpy_f (by omega), hcpy_f (by omega), hcpy_f (by omega), hcpy_f (by omega), r3 _ (by omega)]
    have t6 : ∀ j : Nat, (j : Int) < σ o 2 → τ (p + 6) j = σ (o + 6) j := fun j hj => by
      rw [hτ]
      have := hcpy_in (σ := hcpy (hcpy (hcpy (hcpy (hcpy ρ (o + 1) 0 (p + 1) 0 (σ o 1)) (o + 2) 0 (p + 2) 0 (σ o 1)) (o + 3) 0 (p + 3) 0 (σ o 1)) (o + 4) 0 (p + 4) 0 (σ o 1 + 1)) (o + 5) 0 (p + 5) 0 (σ o 2)) (f := o + 6) (t := p + 6) (a := 0) (b := 0) (n := σ o 2) j (by omega)
      simp only [Int.toNat_zero, Nat.zero_add] at this
      rw [this, hcpy_f (by omega), hcpy_f (by omega), hcpy_f (by omega), hcpy_f (by omega), hcpy_f (by omega), r3 _ (by omega)]
    have hv : vC τ p = vC σ o := by
      refine vC_cpy (fun j hj => ?_) (fun i h1 h3 j hj => ?_) t4 t5
      · rw [t0]
        rcases (show j = 0 ∨ j = 1 ∨ j = 2 by omega) with rfl | rfl | rfl
        · exact r0
        · exact r1
        · exact r2
      · rcases (show i = 1 ∨ i = 2 ∨ i = 3 by omega) with rfl | rfl | rfl
        · exact t1 j hj
        · exact t2 j hj
        · exact t3 j hj
    refine hq τ (fun q hqq => ?_) hv (coOk_cpy hv hV t6)
    unfold inP at hqq
    rw [hτ, hcpy_f (by omega), hcpy_f (by omega), hcpy_f (by omega), hcpy_f (by omega), hcpy_f (by omega), hcpy_f (by omega), r3 q (by omega)]
  (repeat' (first | exact fin _ rfl | apply And.intro | intro _)) <;> omega
def S_X4_moveBy : MSpec := fun a σ Q => match a with
  | [.inr (.inl p), .inl t] => isPc p ∧ okV (vC σ p) ∧ (-6 ≤ t ∧ t ≤ 6) ∧ ∀ τ, only σ τ (fun q => q = p ∨ q = p + 5) → vC τ p = shV (vC σ p) t → Q none τ
  | _ => False
theorem rc_X4_moveBy : ∀ a σ Q, S_X4_moveBy a σ Q → ∃ (p : Nat) (r : List AV), a = .inr (.inl p) :: r ∧ p < 76 ∧ (SH p).1 = 4 ∧ (SH p).2.1 = 3 := by
  intro a σ Q h
  unfold S_X4_moveBy at h
  split at h
  · exact ⟨_, _, rfl, h.1.lt, by rw [h.1.1], by rw [h.1.1]⟩
  · exact h.elim
def mT_X4_moveBy (i : Nat) : Option (Nat × Bool × MSpec) := match i with
  | 46 => some (2, false, S_J9_floorMod_7cf53)
  | _ => none
theorem mT_X4_moveBy_ok {l : Launch} {n : Nat} (hn : 1 ≤ n) : ∀ i e, mT_X4_moveBy i = some e → mV l (rmOf n) RX4 i e := by
  intro i e h
  unfold mT_X4_moveBy at h
  split at h
  · cases h; exact mvS (lv := 0) mw_J9_floorMod_7cf53 (by omega) (by decide) (by decide +kernel) (Or.inl (gtm 478 (by decide +kernel) (by decide +kernel))) ok_J9_floorMod_7cf53
  · cases h
set_option maxRecDepth 100000 in
set_option maxHeartbeats 16000000 in
theorem ok_X4_moveBy : ∀ l n, 1 ≤ n → ∀ a σ Q, S_X4_moveBy a σ Q → AM l n yX4_moveBy cX4_moveBy 3 none a σ Q := by
  intro l n hn a σ Q hS
  unfold S_X4_moveBy at hS
  split at hS
  rotate_left
  · exact hS.elim
  rename_i p t
  obtain ⟨⟨k0, k1, k2, k3, k4, k5, k6, k7⟩, hV, t1, hq⟩ := hS
  obtain ⟨w0, w1, w2⟩ := vC_0 σ p
  obtain ⟨o1, o2, o3, -, oc, on⟩ := id hV
  refine am_ofF 0 cpX4 mT_X4_moveBy (plainFor_of_name (by decide +kernel)) (rfl) (Nat.le_of_ble_eq_true rfl) (cpX4_ok) (mT_X4_moveBy_ok hn) (fun K hK => ?_)
  have loop : ∀ (d k : Nat), (k : Int) + d = σ p 2 → ∀ ρ, only σ ρ (fun q => q = p ∨ q = p + 5) → ρ p 0 = σ p 0 + t → ρ p 1 = σ p 1 → ρ p 2 = σ p 2 → (∀ j : Nat, (j : Int) < σ p 2 → ρ (p + 5) j = if j < k then (σ (p + 5) j + 7 * t) % 12 else σ (p + 5) j) → K 12 [some (.inr (.inl p)), some (.inl t), some (.inl (k : Int))] [] ρ := by
    intro d
    induction d with
    | zero =>
      intro k hk ρ ho h0 h1 h2 h5
      refine hK (fun q => q == 12) 60 _ _ _ _ ?_
      simp only [↓wp, ↓stp, ilen, lnth, st1, st2, nolong, nohead, rnth, ↓gfX, ↓pfX, gfV, pfV, cpF, cpP, cndZ, ↓tgo, ↓tsw, ↓lsw, ↓ldI, ↓ldA, ↓ldL, ↓stI, ↓stA, ↓stL, ↓bin, ↓binD, ↓binL, ↓binDL, ↓una, ↓acV, ↓acK, ↓acpy, ↓inv, entL, nones, List.length_cons, List.length_nil, List.take, List.drop, List.reverse_cons, List.reverse_nil, List.nil_append, List.cons_append, Option.toList_some, Option.toList_none, Nat.reduceAdd, Nat.reduceSub, Nat.reduceLT, Nat.reduceEqDiff, Fin.isValue, aTL, aSZ, Int.toNat_natCast, hset_same, hset_o, hset_s, hset_row, ne_eq, Nat.reduceBEq, beq_self_eq_true, Fin.val_zero, Fin.val_one, fin0, fin1, fin2, fin3, Nat.le_refl, Nat.reduceLeDiff, Nat.zero_le, Int.reduceAdd, Int.reduceNeg, Int.reduceLE, Int.reduceLT, Int.reduceToNat, Int.reduceMul, Int.cast_ofNat_Int, Nat.reduceMod, ↓reduceIte, if_true, if_false, and_true, true_and, or_true, true_or, false_or, or_false, and_self, not_true_eq_false, not_false_eq_true, Bool.false_eq_true, reduceCtorEq, false_implies, true_implies, implies_true, and_false, false_and, dX4_moveBy_0, dX4_moveBy_1, dX4_moveBy_2, dX4_moveBy_5, dX4_moveBy_6, dX4_moveBy_7, dX4_moveBy_10, dX4_moveBy_11, dX4_moveBy_12, dX4_moveBy_13, dX4_moveBy_14, dX4_moveBy_17, dX4_moveBy_20, dX4_moveBy_21, dX4_moveBy_24, dX4_moveBy_25, dX4_moveBy_26, dX4_moveBy_29, dX4_moveBy_30, dX4_moveBy_31, dX4_moveBy_33, dX4_moveBy_34, dX4_moveBy_35, dX4_moveBy_36, dX4_moveBy_38, dX4_moveBy_41, dX4_moveBy_42, dX4_moveBy_45, dX4_moveBy_48, cpX4, mT_X4_moveBy, SHl_0, SHl_1, SHl_2, SHl_3, SHl_4, SHl_5, SHl_6, SHl_7, SHl_8, SHl_9, SHl_10, SHl_11, SHl_12, SHl_13, SHl_14, SHl_15, SHl_16, SHl_17, SHl_18, SHl_19, SHl_20, SHl_21, SHl_22, SHl_23, SHl_24, SHl_25, SHl_26, SHl_27, SHl_28, SHl_29, SHl_30, SHl_31, SHl_32, SHl_33, SHl_34, SHl_35, SHl_36, SHl_37, SHl_38, SHl_39, SHl_40, SHl_41, SHl_42, SHl_43, SHl_44, SHl_45, SHl_46, SHl_47, SHl_48, SHl_49, SHl_50, SHl_51, SHl_52, SHl_53, SHl_54, SHl_55, SHl_56, SHl_57, S_J9_floorMod_7cf53, k0, k5]
      rw [h2]
      have q1 : ρ (p + 1) = σ (p + 1) := ho _ (by omega)
      have q2 : ρ (p + 2) = σ (p + 2) := ho _ (by omega)
      have q3 : ρ (p + 3) = σ (p + 3) := ho _ (by omega)
      have q4 : ρ (p + 4) = σ (p + 4) := ho _ (by omega)
      refine ⟨by omega, ⟨by omega, by omega⟩, ⟨by omega, by omega⟩, fun _ => hq ρ ho ?_, fun q => by omega⟩
      funext a c
      rcases a with _ | _ | _ | _ | _ | _ | _ | a <;> simp only [vC, shV, Nat.zero_add, Nat.reduceAdd, h1, h2, q1, q2, q3, q4]
      · by_cases e : c = 0
        · subst e
          simp
          exact h0
        · by_cases e2 : c < 3
          · rcases (show c = 1 ∨ c = 2 by omega) with rfl | rfl
            · simp [h1]
            · simp [h2]
          · simp [e, e2]
      · simp
      · simp
      · simp
      · simp
      · simp
      · by_cases e : (c : Int) < σ p 2
        · simp [e]
          rw [h5 c e, if_pos (by omega)]
        · simp [e]
      · simp
    | succ d ih =>
      intro k hk ρ ho h0 h1 h2 h5
      have on1 := on k (by omega)
      rw [vC_n (by omega)] at on1
      have g3 := h5 k (by omega)
      rw [if_neg (by omega)] at g3
      refine hK (fun q => q == 12) 60 _ _ _ _ ?_
      simp only [↓wp, ↓stp, ilen, lnth, st1, st2, nolong, nohead, rnth, ↓gfX, ↓pfX, gfV, pfV, cpF, cpP, cndZ, ↓tgo, ↓tsw, ↓lsw, ↓ldI, ↓ldA, ↓ldL, ↓stI, ↓stA, ↓stL, ↓bin, ↓binD, ↓binL, ↓binDL, ↓una, ↓acV, ↓acK, ↓acpy, ↓inv, entL, nones, List.length_cons, List.length_nil, List.take, List.drop, List.reverse_cons, List.reverse_nil, List.nil_append, List.cons_append, Option.toList_some, Option.toList_none, Nat.reduceAdd, Nat.reduceSub, Nat.reduceLT, Nat.reduceEqDiff, Fin.isValue, aTL, aSZ, Int.toNat_natCast, hset_same, hset_o, hset_s, hset_row, ne_eq, Nat.reduceBEq, beq_self_eq_true, Fin.val_zero, Fin.val_one, fin0, fin1, fin2, fin3, Nat.le_refl, Nat.reduceLeDiff, Nat.zero_le, Int.reduceAdd, Int.reduceNeg, Int.reduceLE, Int.reduceLT, Int.reduceToNat, Int.reduceMul, Int.cast_ofNat_Int, Nat.reduceMod, ↓reduceIte, if_true, if_false, and_true, true_and, or_true, true_or, false_or, or_false, and_self, not_true_eq_false, not_false_eq_true, Bool.false_eq_true, reduceCtorEq, false_implies, true_implies, implies_true, and_false, false_and, dX4_moveBy_0, dX4_moveBy_1, dX4_moveBy_2, dX4_moveBy_5, dX4_moveBy_6, dX4_moveBy_7, dX4_moveBy_10, dX4_moveBy_11, dX4_moveBy_12, dX4_moveBy_13, dX4_moveBy_14, dX4_moveBy_17, dX4_moveBy_20, dX4_moveBy_21, dX4_moveBy_24, dX4_moveBy_25, dX4_moveBy_26, dX4_moveBy_29, dX4_moveBy_30, dX4_moveBy_31, dX4_moveBy_33, dX4_moveBy_34, dX4_moveBy_35, dX4_moveBy_36, dX4_moveBy_38, dX4_moveBy_41, dX4_moveBy_42, dX4_moveBy_45, dX4_moveBy_48, cpX4, mT_X4_moveBy, SHl_0, SHl_1, SHl_2, SHl_3, SHl_4, SHl_5, SHl_6, SHl_7, SHl_8, SHl_9, SHl_10, SHl_11, SHl_12, SHl_13, SHl_14, SHl_15, SHl_16, SHl_17, SHl_18, SHl_19, SHl_20, SHl_21, SHl_22, SHl_23, SHl_24, SHl_25, SHl_26, SHl_27, SHl_28, SHl_29, SHl_30, SHl_31, SHl_32, SHl_33, SHl_34, SHl_35, SHl_36, SHl_37, SHl_38, SHl_39, SHl_40, SHl_41, SHl_42, SHl_43, SHl_44, SHl_45, SHl_46, SHl_47, SHl_48, SHl_49, SHl_50, SHl_51, SHl_52, SHl_53, SHl_54, SHl_55, SHl_56, SHl_57, S_J9_floorMod_7cf53, k0, k5]
      rw [h2, g3]
      have hx := ih (k + 1) (by omega) (hset ρ (p + 5) k ((σ (p + 5) k + 7 * t) % 12)) (only_set ho (Or.inr rfl)) (by rw [hset_o (by omega)]; exact h0) (by rw [hset_o (by omega)]; exact h1) (by rw [hset_o (by omega)]; exact h2) (fun j hj => by
          by_cases e : j = k
          · subst e
            rw [hset_same, if_pos (by omega)]
          · rw [hset_s (by omega), h5 j hj]
            by_cases e2 : j < k
            · rw [if_pos e2, if_pos (by omega)]
            · rw [if_neg e2, if_neg (by omega)])
      (repeat' (first | exact hx | apply And.intro | intro _)) <;> omega
  refine hK (fun q => q == 12) 60 _ _ _ _ ?_
  simp only [↓wp, ↓stp, ilen, lnth, st1, st2, nolong, nohead, rnth, ↓gfX, ↓pfX, gfV, pfV, cpF, cpP, cndZ, ↓tgo, ↓tsw, ↓lsw, ↓ldI, ↓ldA, ↓ldL, ↓stI, ↓stA, ↓stL, ↓bin, ↓binD, ↓binL, ↓binDL, ↓una, ↓acV, ↓acK, ↓acpy, ↓inv, entL, nones, List.length_cons, List.length_nil, List.take, List.drop, List.reverse_cons, List.reverse_nil, List.nil_append, List.cons_append, Option.toList_some, Option.toList_none, Nat.reduceAdd, Nat.reduceSub, Nat.reduceLT, Nat.reduceEqDiff, Fin.isValue, aTL, aSZ, Int.toNat_natCast, hset_same, hset_o, hset_s, hset_row, ne_eq, Nat.reduceBEq, beq_self_eq_true, Fin.val_zero, Fin.val_one, fin0, fin1, fin2, fin3, Nat.le_refl, Nat.reduceLeDiff, Nat.zero_le, Int.reduceAdd, Int.reduceNeg, Int.reduceLE, Int.reduceLT, Int.reduceToNat, Int.reduceMul, Int.cast_ofNat_Int, Nat.reduceMod, ↓reduceIte, if_true, if_false, and_true, true_and, or_true, true_or, false_or, or_false, and_self, not_true_eq_false, not_false_eq_true, Bool.false_eq_true, reduceCtorEq, false_implies, true_implies, implies_true, and_false, false_and, dX4_moveBy_0, dX4_moveBy_1, dX4_moveBy_2, dX4_moveBy_5, dX4_moveBy_6, dX4_moveBy_7, dX4_moveBy_10, dX4_moveBy_11, dX4_moveBy_12, dX4_moveBy_13, dX4_moveBy_14, dX4_moveBy_17, dX4_moveBy_20, dX4_moveBy_21, dX4_moveBy_24, dX4_moveBy_25, dX4_moveBy_26, dX4_moveBy_29, dX4_moveBy_30, dX4_moveBy_31, dX4_moveBy_33, dX4_moveBy_34, dX4_moveBy_35, dX4_moveBy_36, dX4_moveBy_38, dX4_moveBy_41, dX4_moveBy_42, dX4_moveBy_45, dX4_moveBy_48, cpX4, mT_X4_moveBy, SHl_0, SHl_1, SHl_2, SHl_3, SHl_4, SHl_5, SHl_6, SHl_7, SHl_8, SHl_9, SHl_10, SHl_11, SHl_12, SHl_13, SHl_14, SHl_15, SHl_16, SHl_17, SHl_18, SHl_19, SHl_20, SHl_21, SHl_22, SHl_23, SHl_24, SHl_25, SHl_26, SHl_27, SHl_28, SHl_29, SHl_30, SHl_31, SHl_32, SHl_33, SHl_34, SHl_35, SHl_36, SHl_37, SHl_38, SHl_39, SHl_40, SHl_41, SHl_42, SHl_43, SHl_44, SHl_45, SHl_46, SHl_47, SHl_48, SHl_49, SHl_50, SHl_51, SHl_52, SHl_53, SHl_54, SHl_55, SHl_56, SHl_57, S_J9_floorMod_7cf53, k0]
  have hx := loop (σ p 2).toNat 0 (by omega) (hset σ p 0 (σ p 0 + t)) (only_set (fun q _ => rfl) (Or.inl rfl)) hset_same (hset_s (by decide)) (hset_s (by decide)) (fun j hj => by rw [hset_o (by omega), if_neg (by omega)])
  exact ⟨by omega, by omega, hx⟩
/-- an act is kept, the last sixteen -/
def kpOk (σ τ : HP) (s w b : Int) : Prop := only σ τ (fun q => 38 ≤ q ∧ q ≤ 41) ∧ ∃ S : Nat, S ≤ 15 ∧ τ 38 0 = S + 1 ∧ ((σ 38 0 = 16 ∧ S = 15 ∧ ∀ i, i < 15 → τ 39 i = σ 39 (i + 1) ∧ τ 40 i = σ 40 (i + 1) ∧ τ 41 i = σ 41 (i + 1)) ∨ (σ 38 0 = S ∧ ∀ i, i < S → τ 39 i = σ 39 i ∧ τ 40 i = σ 40 i ∧ τ 41 i = σ 41 i)) ∧ τ 39 S = s ∧ τ 40 S = w ∧ τ 41 S = b
def S_X0_forgetOldest : MSpec := fun a σ Q => match a with
  | [.inr (.inl 38)] => Q none (hset (hcpy (hcpy (hcpy σ 39 1 39 0 15) 40 1 40 0 15) 41 1 41 0 15) 38 0 15)
  | _ => False
theorem rc_X0_forgetOldest : ∀ a σ Q, S_X0_forgetOldest a σ Q → ∃ (p : Nat) (r : List AV), a = .inr (.inl p) :: r ∧ p < 76 ∧ (SH p).1 = 4 ∧ (SH p).2.1 = 0 := by
  intro a σ Q h
  unfold S_X0_forgetOldest at h
  split at h
  · exact ⟨38, _, rfl, by decide, rfl, rfl⟩
  · exact h.elim
def mT_X0_forgetOldest (i : Nat) : Option (Nat × Bool × MSpec) := match i with
  | _ => none
theorem mT_X0_forgetOldest_ok {l : Launch} {n : Nat} (hn : 0 ≤ n) : ∀ i e, mT_X0_forgetOldest i = some e → mV l (rmOf n) RX0 i e := by
  intro i e h
  unfold mT_X0_forgetOldest at h
  split at h
  · cases h
set_option maxRecDepth 100000 in
set_option maxHeartbeats 4000000 in
theorem ok_X0_forgetOldest : ∀ l n, 0 ≤ n → ∀ a σ Q, S_X0_forgetOldest a σ Q → AM l n yX0_forgetOldest cX0_forgetOldest 1 none a σ Q := by
  intro l n hn a σ Q hS
  unfold S_X0_forgetOldest at hS
  split at hS
  rotate_left
  · exact hS.elim
  obtain hq := hS
  refine am_ofF 0 cpX0 mT_X0_forgetOldest (plainFor_of_name (by decide +kernel)) (rfl) (Nat.le_of_ble_eq_true rfl) (cpX0_ok) (mT_X0_forgetOldest_ok hn) (fun K hK => ?_)
  refine hK (fun _ => false) 200 _ _ _ _ ?_
  simp only [↓wp, ↓stp, ilen, lnth, st1, st2, nolong, nohead, rnth, ↓gfX, ↓pfX, gfV, pfV, cpF, cpP, cndZ, ↓tgo, ↓tsw, ↓lsw, ↓ldI, ↓ldA, ↓ldL, ↓stI, ↓stA, ↓stL, ↓bin, ↓binD, ↓binL, ↓binDL, ↓una, ↓acV, ↓acK, ↓acpy, ↓inv, entL, nones, List.length_cons, List.length_nil, List.take, List.drop, List.reverse_cons, List.reverse_nil, List.nil_append, List.cons_append, Option.toList_some, Option.toList_none, Nat.reduceAdd, Nat.reduceSub, Nat.reduceLT, Nat.reduceEqDiff, Fin.isValue, aTL, aSZ, Int.toNat_natCast, hset_same, hset_o, hset_s, hset_row, ne_eq, Nat.reduceBEq, beq_self_eq_true, Fin.val_zero, Fin.val_one, fin0, fin1, fin2, fin3, Nat.le_refl, Nat.reduceLeDiff, Nat.zero_le, Int.reduceAdd, Int.reduceNeg, Int.reduceLE, Int.reduceLT, Int.reduceToNat, Int.reduceMul, Int.cast_ofNat_Int, Nat.reduceMod, ↓reduceIte, if_true, if_false, and_true, true_and, or_true, true_or, false_or, or_false, and_self, not_true_eq_false, not_false_eq_true, Bool.false_eq_true, reduceCtorEq, false_implies, true_implies, implies_true, and_false, false_and, dX0_forgetOldest_0, dX0_forgetOldest_1, dX0_forgetOldest_4, dX0_forgetOldest_5, dX0_forgetOldest_6, dX0_forgetOldest_9, dX0_forgetOldest_10, dX0_forgetOldest_12, dX0_forgetOldest_15, dX0_forgetOldest_16, dX0_forgetOldest_19, dX0_forgetOldest_20, dX0_forgetOldest_21, dX0_forgetOldest_24, dX0_forgetOldest_25, dX0_forgetOldest_27, dX0_forgetOldest_30, dX0_forgetOldest_31, dX0_forgetOldest_34, dX0_forgetOldest_35, dX0_forgetOldest_36, dX0_forgetOldest_39, dX0_forgetOldest_40, dX0_forgetOldest_42, dX0_forgetOldest_45, dX0_forgetOldest_46, dX0_forgetOldest_48, dX0_forgetOldest_51, cpX0, mT_X0_forgetOldest, SHl_0, SHl_1, SHl_2, SHl_3, SHl_4, SHl_5, SHl_6, SHl_7, SHl_8, SHl_9, SHl_10, SHl_11, SHl_12, SHl_13, SHl_14, SHl_15, SHl_16, SHl_17, SHl_18, SHl_19, SHl_20, SHl_21, SHl_22, SHl_23, SHl_24, SHl_25, SHl_26, SHl_27, SHl_28, SHl_29, SHl_30, SHl_31, SHl_32, SHl_33, SHl_34, SHl_35, SHl_36, SHl_37, SHl_38, SHl_39, SHl_40, SHl_41, SHl_42, SHl_43, SHl_44, SHl_45, SHl_46, SHl_47, SHl_48, SHl_49, SHl_50, SHl_51, SHl_52, SHl_53, SHl_54, SHl_55, SHl_56, SHl_57]
  (repeat' (first | exact hS | apply And.intro | intro _)) <;> omega
def S_X0_keep : MSpec := fun a σ Q => match a with
  | [.inr (.inl 38), .inl s, .inl w, .inl b] => (0 ≤ σ 38 0 ∧ σ 38 0 ≤ 16) ∧ ∀ τ, kpOk σ τ s w b → Q none τ
  | _ => False
theorem rc_X0_keep : ∀ a σ Q, S_X0_keep a σ Q → ∃ (p : Nat) (r : List AV), a = .inr (.inl p) :: r ∧ p < 76 ∧ (SH p).1 = 4 ∧ (SH p).2.1 = 0 := by
  intro a σ Q h
  unfold S_X0_keep at h
  split at h
  · exact ⟨38, _, rfl, by decide, rfl, rfl⟩
  · exact h.elim
theorem hcpy_d {σ : HP} {t i : Nat} (h : i < 15) : hcpy σ t 1 t 0 15 t i = σ t (i + 1) := by
  have := hcpy_in (σ := σ) (f := t) (t := t) (a := 1) (b := 0) (n := 15) i (by omega)
  simp only [Int.toNat_zero, Nat.zero_add] at this
  rw [this]
  congr 1
  omega
def mT_X0_keep (i : Nat) : Option (Nat × Bool × MSpec) := match i with
  | 23 => some (1, true, S_X0_forgetOldest)
  | _ => none
theorem mT_X0_keep_ok {l : Launch} {n : Nat} (hn : 1 ≤ n) : ∀ i e, mT_X0_keep i = some e → mV l (rmOf n) RX0 i e := by
  intro i e h
  unfold mT_X0_keep at h
  split at h
  · cases h; exact mvI (lv := 0) (ci := 0) (T := TX0) (N := 4) mw_X0_forgetOldest rfl (by omega) (by decide) (by decide +kernel) (gtm 448 (by decide +kernel) (by decide +kernel)) rc_X0_forgetOldest ok_X0_forgetOldest
  · cases h
set_option maxRecDepth 100000 in
set_option maxHeartbeats 4000000 in
theorem ok_X0_keep : ∀ l n, 1 ≤ n → ∀ a σ Q, S_X0_keep a σ Q → AM l n yX0_keep cX0_keep 4 none a σ Q := by
  intro l n hn a σ Q hS
  unfold S_X0_keep at hS
  split at hS
  rotate_left
  · exact hS.elim
  rename_i s w b
  obtain ⟨h1, hq⟩ := hS
  refine am_ofF 0 cpX0 mT_X0_keep (plainFor_of_name (by decide +kernel)) (rfl) (Nat.le_of_ble_eq_true rfl) (cpX0_ok) (mT_X0_keep_ok hn) (fun K hK => ?_)
  refine hK (fun _ => false) 200 _ _ _ _ ?_
  simp only [↓wp, ↓stp, ilen, lnth, st1, st2, nolong, nohead, rnth, ↓gfX, ↓pfX, gfV, pfV, cpF, cpP, cndZ, ↓tgo, ↓tsw, ↓lsw, ↓ldI, ↓ldA, ↓ldL, ↓stI, ↓stA, ↓stL, ↓bin, ↓binD, ↓binL, ↓binDL, ↓una, ↓acV, ↓acK, ↓acpy, ↓inv, entL, nones, List.length_cons, List.length_nil, List.take, List.drop, List.reverse_cons, List.reverse_nil, List.nil_append, List.cons_append, Option.toList_some, Option.toList_none, Nat.reduceAdd, Nat.reduceSub, Nat.reduceLT, Nat.reduceEqDiff, Fin.isValue, aTL, aSZ, Int.toNat_natCast, hset_same, hset_o, hset_s, hset_row, ne_eq, Nat.reduceBEq, beq_self_eq_true, Fin.val_zero, Fin.val_one, fin0, fin1, fin2, fin3, Nat.le_refl, Nat.reduceLeDiff, Nat.zero_le, Int.reduceAdd, Int.reduceNeg, Int.reduceLE, Int.reduceLT, Int.reduceToNat, Int.reduceMul, Int.cast_ofNat_Int, Nat.reduceMod, ↓reduceIte, if_true, if_false, and_true, true_and, or_true, true_or, false_or, or_false, and_self, not_true_eq_false, not_false_eq_true, Bool.false_eq_true, reduceCtorEq, false_implies, true_implies, implies_true, and_false, false_and, dX0_keep_0, dX0_keep_1, dX0_keep_4, dX0_keep_6, dX0_keep_9, dX0_keep_10, dX0_keep_13, dX0_keep_14, dX0_keep_17, dX0_keep_18, dX0_keep_21, dX0_keep_22, dX0_keep_23, dX0_keep_24, dX0_keep_27, dX0_keep_28, dX0_keep_31, dX0_keep_32, dX0_keep_33, dX0_keep_34, dX0_keep_37, dX0_keep_38, dX0_keep_41, dX0_keep_42, dX0_keep_43, dX0_keep_44, dX0_keep_45, dX0_keep_48, dX0_keep_49, dX0_keep_50, dX0_keep_53, cpX0, mT_X0_keep, SHl_0, SHl_1, SHl_2, SHl_3, SHl_4, SHl_5, SHl_6, SHl_7, SHl_8, SHl_9, SHl_10, SHl_11, SHl_12, SHl_13, SHl_14, SHl_15, SHl_16, SHl_17, SHl_18, SHl_19, SHl_20, SHl_21, SHl_22, SHl_23, SHl_24, SHl_25, SHl_26, SHl_27, SHl_28, SHl_29, SHl_30, SHl_31, SHl_32, SHl_33, SHl_34, SHl_35, SHl_36, SHl_37, SHl_38, SHl_39, SHl_40, SHl_41, SHl_42, SHl_43, SHl_44, SHl_45, SHl_46, SHl_47, SHl_48, SHl_49, SHl_50, SHl_51, SHl_52, SHl_53, SHl_54, SHl_55, SHl_56, SHl_57, S_X0_forgetOldest, hcpy_f]
  refine ⟨⟨by omega, by omega⟩, ⟨by omega, by omega⟩, fun q => ?_, fun q => ?_⟩
  · refine ⟨by omega, by omega, by omega, by omega, by omega, by omega, hq _ ?_⟩
    obtain ⟨S, hS⟩ : ∃ S : Nat, σ 38 0 = S := ⟨(σ 38 0).toNat, by omega⟩
    rw [hS, Int.toNat_natCast]
    refine ⟨only_set (only_set (only_set (only_set (fun q _ => rfl) (by omega)) (by omega)) (by omega)) (by omega), S, by omega, hset_same, Or.inr ⟨hS, fun i hi => ?_⟩, ?_, ?_, ?_⟩
    · simp only [hset_at]
      refine ⟨?_, ?_, ?_⟩
      · simp (disch := omega) only [if_neg]
      · simp (disch := omega) only [if_neg]
      · simp (disch := omega) only [if_neg]
    · rw [hset_o (by decide), hset_o (by decide), hset_o (by decide), hset_same]
    · rw [hset_o (by decide), hset_o (by decide), hset_same]
    · rw [hset_o (by decide), hset_same]
  · have h16 : σ 38 0 = 16 := by omega
    refine hq _ ⟨only_set (only_set (only_set (only_set (only_set (fun q hqq => ?_) (by omega)) (by omega)) (by omega)) (by omega)) (by omega), 15, by omega, hset_same, Or.inl ⟨h16, rfl, fun i hi => ?_⟩, ?_, ?_, ?_⟩
    · rw [hcpy_f (by omega), hcpy_f (by omega), hcpy_f (by omega)]
    · refine ⟨?_, ?_, ?_⟩
      · rw [hset_o (by decide), hset_o (by decide), hset_o (by decide), hset_s (by omega), hset_o (by decide), hcpy_f (by decide), hcpy_f (by decide), hcpy_d hi]
      · rw [hset_o (by decide), hset_o (by decide), hset_s (by omega), hset_o (by decide), hset_o (by decide), hcpy_f (by decide), hcpy_d hi, hcpy_f (by decide)]
      · rw [hset_o (by decide), hset_s (by omega), hset_o (by decide), hset_o (by decide), hset_o (by decide), hcpy_d hi, hcpy_f (by decide), hcpy_f (by decide)]
    · rw [hset_o (by decide), hset_o (by decide), hset_o (by decide), hset_same]
    · rw [hset_o (by decide), hset_o (by decide), hset_same]
    · rw [hset_o (by decide), hset_same]
def S_X0_takeBack : MSpec := fun a σ Q => match a with
  | [.inr (.inl 38), .inr (.inl 7)] => ∃ s : Nat, σ 38 0 = s + 1 ∧ s ≤ 15 ∧ (0 ≤ σ 39 s ∧ σ 39 s ≤ 3) ∧ (σ 39 s = 0 → (0 ≤ σ 40 s ∧ σ 40 s < 40) ∧ Q none (hset (hset σ 38 0 s) 12 (σ 40 s).toNat (σ 41 s))) ∧ (σ 39 s = 1 → (0 ≤ σ 40 s ∧ σ 40 s < 10) ∧ Q none (hset (hset σ 38 0 s) 8 (σ 40 s).toNat (σ 41 s))) ∧ (σ 39 s = 2 → Q none (hset (hset σ 38 0 s) 7 0 (σ 41 s))) ∧ (σ 39 s = 3 → okV (vC σ 7) ∧ (-6 ≤ σ 41 s ∧ σ 41 s ≤ 6) ∧ ∀ τ, only (hset σ 38 0 s) τ (fun q => q = 7 ∨ q = 12) → vC τ 7 = shV (vC σ 7) (-(σ 41 s)) → Q none τ)
  | _ => False
theorem rc_X0_takeBack : ∀ a σ Q, S_X0_takeBack a σ Q → ∃ (p : Nat) (r : List AV), a = .inr (.inl p) :: r ∧ p < 76 ∧ (SH p).1 = 4 ∧ (SH p).2.1 = 0 := by
  intro a σ Q h
  unfold S_X0_takeBack at h
  split at h
  · exact ⟨38, _, rfl, by decide, rfl, rfl⟩
  · exact h.elim
def mT_X0_takeBack (i : Nat) : Option (Nat × Bool × MSpec) := match i with
  | 43 => some (2, true, S_X4_moveBy)
  | _ => none
theorem mT_X0_takeBack_ok {l : Launch} {n : Nat} (hn : 2 ≤ n) : ∀ i e, mT_X0_takeBack i = some e → mV l (rmOf n) RX0 i e := by
  intro i e h
  unfold mT_X0_takeBack at h
  split at h
  · cases h; exact mvI (lv := 1) (ci := 3) (T := TX4) (N := 9) mw_X4_moveBy rfl (by omega) (by decide) (by decide +kernel) (gtm 489 (by decide +kernel) (by decide +kernel)) rc_X4_moveBy ok_X4_moveBy
  · cases h
set_option maxRecDepth 100000 in
set_option maxHeartbeats 4000000 in
theorem ok_X0_takeBack : ∀ l n, 2 ≤ n → ∀ a σ Q, S_X0_takeBack a σ Q → AM l n yX0_takeBack cX0_takeBack 4 none a σ Q := by
  intro l n hn a σ Q hS
  unfold S_X0_takeBack at hS
  split at hS
  rotate_left
  · exact hS.elim
  obtain ⟨s, h1, h2, h3, c0, c1, c2, c3⟩ := hS
  refine am_ofF 0 cpX0 mT_X0_takeBack (plainFor_of_name (by decide +kernel)) (rfl) (Nat.le_of_ble_eq_true rfl) (cpX0_ok) (mT_X0_takeBack_ok hn) (fun K hK => ?_)
  refine hK (fun _ => false) 200 _ _ _ _ ?_
  simp only [↓wp, ↓stp, ilen, lnth, st1, st2, nolong, nohead, rnth, ↓gfX, ↓pfX, gfV, pfV, cpF, cpP, cndZ, ↓tgo, ↓tsw, ↓lsw, ↓ldI, ↓ldA, ↓ldL, ↓stI, ↓stA, ↓stL, ↓bin, ↓binD, ↓binL, ↓binDL, ↓una, ↓acV, ↓acK, ↓acpy, ↓inv, entL, nones, List.length_cons, List.length_nil, List.take, List.drop, List.reverse_cons, List.reverse_nil, List.nil_append, List.cons_append, Option.toList_some, Option.toList_none, Nat.reduceAdd, Nat.reduceSub, Nat.reduceLT, Nat.reduceEqDiff, Fin.isValue, aTL, aSZ, Int.toNat_natCast, hset_same, hset_o, hset_s, hset_row, ne_eq, Nat.reduceBEq, beq_self_eq_true, Fin.val_zero, Fin.val_one, fin0, fin1, fin2, fin3, Nat.le_refl, Nat.reduceLeDiff, Nat.zero_le, Int.reduceAdd, Int.reduceNeg, Int.reduceLE, Int.reduceLT, Int.reduceToNat, Int.reduceMul, Int.cast_ofNat_Int, Nat.reduceMod, ↓reduceIte, if_true, if_false, and_true, true_and, or_true, true_or, false_or, or_false, and_self, not_true_eq_false, not_false_eq_true, Bool.false_eq_true, reduceCtorEq, false_implies, true_implies, implies_true, and_false, false_and, dX0_takeBack_0, dX0_takeBack_1, dX0_takeBack_4, dX0_takeBack_7, dX0_takeBack_8, dX0_takeBack_9, dX0_takeBack_10, dX0_takeBack_13, dX0_takeBack_14, dX0_takeBack_15, dX0_takeBack_18, dX0_takeBack_19, dX0_takeBack_22, dX0_takeBack_23, dX0_takeBack_26, dX0_takeBack_27, dX0_takeBack_28, dX0_takeBack_29, dX0_takeBack_32, dX0_takeBack_33, dX0_takeBack_36, dX0_takeBack_37, dX0_takeBack_38, dX0_takeBack_39, dX0_takeBack_42, dX0_takeBack_43, dX0_takeBack_46, dX0_takeBack_47, dX0_takeBack_72, dX0_takeBack_73, dX0_takeBack_76, dX0_takeBack_77, dX0_takeBack_78, dX0_takeBack_79, dX0_takeBack_82, dX0_takeBack_83, dX0_takeBack_86, dX0_takeBack_87, dX0_takeBack_88, dX0_takeBack_89, dX0_takeBack_92, dX0_takeBack_93, dX0_takeBack_94, dX0_takeBack_97, dX0_takeBack_100, dX0_takeBack_101, dX0_takeBack_102, dX0_takeBack_103, dX0_takeBack_106, cpX0, mT_X0_takeBack, SHl_0, SHl_1, SHl_2, SHl_3, SHl_4, SHl_5, SHl_6, SHl_7, SHl_8, SHl_9, SHl_10, SHl_11, SHl_12, SHl_13, SHl_14, SHl_15, SHl_16, SHl_17, SHl_18, SHl_19, SHl_20, SHl_21, SHl_22, SHl_23, SHl_24, SHl_25, SHl_26, SHl_27, SHl_28, SHl_29, SHl_30, SHl_31, SHl_32, SHl_33, SHl_34, SHl_35, SHl_36, SHl_37, SHl_38, SHl_39, SHl_40, SHl_41, SHl_42, SHl_43, SHl_44, SHl_45, SHl_46, SHl_47, SHl_48, SHl_49, SHl_50, SHl_51, SHl_52, SHl_53, SHl_54, SHl_55, SHl_56, SHl_57, S_X4_moveBy]
  have e0 : σ 38 0 - 1 = (s : Int) := by omega
  have hv : vC (hset σ 38 0 (s : Int)) 7 = vC σ 7 := vC_hset (by omega)
  rw [h1]
  simp only [show (s : Int) + 1 - 1 = s by omega, Int.toNat_natCast, hv]
  (repeat' (first | exact isPc_7 | exact (c3 (by omega)).1 | exact (c3 (by omega)).2.2 | exact (c3 (by omega)).2.2 _ ‹_› ‹_› | exact (c0 (by omega)).2 | exact (c1 (by omega)).2 | exact c2 (by omega) | apply And.intro | intro _)) <;> first | omega | (have := (c0 (by omega)).1; omega) | (have := (c1 (by omega)).1; omega) | (have := (c3 (by omega)).2.1; omega)
