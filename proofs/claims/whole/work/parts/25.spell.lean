/-! ===== names and printed signs by the cheapest windows ===== -/
/-- the place of note j of chord c -/
def plV (V : HP) (c j : Nat) : Int := nmV V c ((winV V c : Int) - 15) j
def gF (V : HP) (fo : Nat → Int) (c : Nat) : Nat → Nat → Int
  | 0, t => if V 2 c = 1 then headV (V 0 0) t else fo t
  | j + 1, t => if (t : Int) = letZ (plV V c j) then altZ (plV V c j) else gF V fo c j t
def frC (V : HP) : Nat → Nat → Int
  | 0 => fun _ => 0
  | c + 1 => gF V (frC V c) c (V 5 c).toNat
/-- what is in force ahead of note j of chord c -/
def fcV (V : HP) (c j t : Nat) : Int := gF V (frC V c) c j t
def prV (V : HP) (c j : Nat) : Int := if fcV V c j (letZ (plV V c j)).toNat = altZ (plV V c j) then -1000000 else altZ (plV V c j)
def sgF (V : HP) (s0 : Int) (c : Nat) : Nat → Int
  | 0 => s0
  | j + 1 => sgF V s0 c j + (if fcV V c j (letZ (plV V c j)).toNat = altZ (plV V c j) then 0 else 1)
def sgC (V : HP) : Nat → Int
  | 0 => 0
  | c + 1 => sgF V (sgC V c) c (V 5 c).toNat
def sgV (V : HP) (c j : Nat) : Int := sgF V (sgC V c) c j
def signsV (V : HP) : Int := sgC V (ncV V)
theorem headV_b (g t : Int) : -1 ≤ headV g t ∧ headV g t ≤ 1 := by
  unfold headV
  split
  · omega
  · split <;> omega
theorem plV_b {V : HP} (hV : okV V) {c j : Nat} (hc : c < ncV V) : -15 ≤ plV V c j ∧ plV V c j ≤ 19 := by
  have := winV_lt hV (by omega) c hc
  exact nmV_b (by omega) (by omega) j
theorem altZ_b {x : Int} (h : -15 ≤ x ∧ x ≤ 19) : -3 ≤ altZ x ∧ altZ x ≤ 3 := by
  unfold altZ
  omega
theorem gF_b {V : HP} (hV : okV V) {fo : Nat → Int} {c : Nat} (hc : c < ncV V) (hfo : ∀ t, -3 ≤ fo t ∧ fo t ≤ 3) : ∀ j t, -3 ≤ gF V fo c j t ∧ gF V fo c j t ≤ 3
  | 0, t => by
    have := headV_b (V 0 0) t
    have := hfo t
    unfold gF
    split <;> omega
  | j + 1, t => by
    have h1 := gF_b hV hc hfo j t
    have h2 := altZ_b (plV_b hV (j := j) hc)
    unfold gF
    split <;> omega
theorem frC_b {V : HP} (hV : okV V) : ∀ c, c ≤ ncV V → ∀ t, -3 ≤ frC V c t ∧ frC V c t ≤ 3
  | 0, _, t => ⟨by show (-3 : Int) ≤ 0; omega, by show (0 : Int) ≤ 3; omega⟩
  | c + 1, h, t => gF_b hV (by omega) (frC_b hV c (by omega)) _ t
theorem fcV_b {V : HP} (hV : okV V) {c : Nat} (hc : c < ncV V) (j t : Nat) : -3 ≤ fcV V c j t ∧ fcV V c j t ≤ 3 := gF_b hV hc (frC_b hV c (by omega)) j t
theorem fcV_s {V : HP} {c j t : Nat} : fcV V c (j + 1) t = if (t : Int) = letZ (plV V c j) then altZ (plV V c j) else fcV V c j t := rfl
theorem sgV_s {V : HP} {c j : Nat} : sgV V c (j + 1) = sgV V c j + (if fcV V c j (letZ (plV V c j)).toNat = altZ (plV V c j) then 0 else 1) := rfl
def S_X2_beginBar : MSpec := fun a σ Q => match a with
  | [.inr (.inl b), .inl g] => isBs b ∧ (0 ≤ g ∧ g ≤ 14) ∧ ∀ τ, only σ τ (fun q => q = b + 7) → (∀ t, t < 7 → τ (b + 7) t = headV g t) → Q none τ
  | _ => False
theorem rc_X2_beginBar : ∀ a σ Q, S_X2_beginBar a σ Q → ∃ (p : Nat) (r : List AV), a = .inr (.inl p) :: r ∧ p < 76 ∧ (SH p).1 = 4 ∧ (SH p).2.1 = 2 := by
  intro a σ Q h
  unfold S_X2_beginBar at h
  split at h
  · exact ⟨_, _, rfl, h.1.lt, by rw [h.1.1], by rw [h.1.1]⟩
  · exact h.elim
def mT_X2_beginBar (i : Nat) : Option (Nat × Bool × MSpec) := match i with
  | 110 => some (2, false, S_X3_headOf)
  | _ => none
theorem mT_X2_beginBar_ok {l : Launch} {n : Nat} (hn : 1 ≤ n) : ∀ i e, mT_X2_beginBar i = some e → mV l (rmOf n) RX2 i e := by
  intro i e h
  unfold mT_X2_beginBar at h
  split at h
  · cases h; exact mvS (lv := 0) mw_X3_headOf (by omega) (by decide) (by decide +kernel) (Or.inl (gtm 579 (by decide +kernel) (by decide +kernel))) ok_X3_headOf
  · cases h
set_option maxRecDepth 100000 in
set_option maxHeartbeats 16000000 in
theorem ok_X2_beginBar : ∀ l n, 1 ≤ n → ∀ a σ Q, S_X2_beginBar a σ Q → AM l n yX2_beginBar cX2_beginBar 3 none a σ Q := by
  intro l n hn a σ Q hS
  unfold S_X2_beginBar at hS
  split at hS
  rotate_left
  · exact hS.elim
  rename_i b g
  obtain ⟨hB, g1, hq⟩ := hS
  obtain ⟨b0, b1, b2, b3, b4, b5, b6, b7, b8⟩ := id hB
  refine am_ofF 0 cpX2 mT_X2_beginBar (plainFor_of_name (by decide +kernel)) (rfl) (Nat.le_of_ble_eq_true rfl) (cpX2_ok) (mT_X2_beginBar_ok hn) (fun K hK => ?_)
  have loop : ∀ (d t : Nat), t + d = 7 → ∀ τ, only σ τ (fun q => q = b + 7) → (∀ x, x < t → τ (b + 7) x = headV g x) → K 2 [some (.inr (.inl b)), some (.inl g), some (.inl (t : Int))] [] τ := by
    intro d
    induction d with
    | zero =>
      intro t ht τ ho hx
      refine hK (fun q => q == 2) 100 _ _ _ _ ?_
      simp only [↓wp, ↓stp, ilen, lnth, st1, st2, nolong, nohead, rnth, ↓gfX, ↓pfX, gfV, pfV, cpF, cpP, cndZ, ↓tgo, ↓tsw, ↓lsw, ↓ldI, ↓ldA, ↓ldL, ↓stI, ↓stA, ↓stL, ↓bin, ↓binD, ↓binL, ↓binDL, ↓una, ↓acV, ↓acK, ↓acpy, ↓inv, entL, nones, List.length_cons, List.length_nil, List.take, List.drop, List.reverse_cons, List.reverse_nil, List.nil_append, List.cons_append, Option.toList_some, Option.toList_none, Nat.reduceAdd, Nat.reduceSub, Nat.reduceLT, Nat.reduceEqDiff, Fin.isValue, aTL, aSZ, Int.toNat_natCast, hset_same, hset_o, hset_s, hset_row, ne_eq, Nat.reduceBEq, beq_self_eq_true, Fin.val_zero, Fin.val_one, fin0, fin1, fin2, fin3, Nat.le_refl, Nat.reduceLeDiff, Nat.zero_le, Int.reduceAdd, Int.reduceNeg, Int.reduceLE, Int.reduceLT, Int.reduceToNat, Int.reduceMul, Int.cast_ofNat_Int, Nat.reduceMod, ↓reduceIte, if_true, if_false, and_true, true_and, or_true, true_or, false_or, or_false, and_self, not_true_eq_false, not_false_eq_true, Bool.false_eq_true, reduceCtorEq, false_implies, true_implies, implies_true, and_false, false_and, dX2_beginBar_0, dX2_beginBar_1, dX2_beginBar_2, dX2_beginBar_3, dX2_beginBar_5, dX2_beginBar_8, dX2_beginBar_9, dX2_beginBar_12, dX2_beginBar_13, dX2_beginBar_14, dX2_beginBar_15, dX2_beginBar_18, dX2_beginBar_19, dX2_beginBar_22, dX2_beginBar_25, cpX2, mT_X2_beginBar, SHl_0, SHl_1, SHl_2, SHl_3, SHl_4, SHl_5, SHl_6, SHl_7, SHl_8, SHl_9, SHl_10, SHl_11, SHl_12, SHl_13, SHl_14, SHl_15, SHl_16, SHl_17, SHl_18, SHl_19, SHl_20, SHl_21, SHl_22, SHl_23, SHl_24, SHl_25, SHl_26, SHl_27, SHl_28, SHl_29, SHl_30, SHl_31, SHl_32, SHl_33, SHl_34, SHl_35, SHl_36, SHl_37, SHl_38, SHl_39, SHl_40, SHl_41, SHl_42, SHl_43, SHl_44, SHl_45, SHl_46, SHl_47, SHl_48, SHl_49, SHl_50, SHl_51, SHl_52, SHl_53, SHl_54, SHl_55, SHl_56, SHl_57, S_X3_headOf, b0, b1, b2, b3, b4, b5, b6, b7, Nat.add_left_cancel_iff]
      exact ⟨⟨by omega, by omega⟩, ⟨by omega, by omega⟩, fun _ => hq τ ho (fun x h => hx x (by omega)), fun q => by omega⟩
    | succ d ih =>
      intro t ht τ ho hx
      refine hK (fun q => q == 2) 100 _ _ _ _ ?_
      simp only [↓wp, ↓stp, ilen, lnth, st1, st2, nolong, nohead, rnth, ↓gfX, ↓pfX, gfV, pfV, cpF, cpP, cndZ, ↓tgo, ↓tsw, ↓lsw, ↓ldI, ↓ldA, ↓ldL, ↓stI, ↓stA, ↓stL, ↓bin, ↓binD, ↓binL, ↓binDL, ↓una, ↓acV, ↓acK, ↓acpy, ↓inv, entL, nones, List.length_cons, List.length_nil, List.take, List.drop, List.reverse_cons, List.reverse_nil, List.nil_append, List.cons_append, Option.toList_some, Option.toList_none, Nat.reduceAdd, Nat.reduceSub, Nat.reduceLT, Nat.reduceEqDiff, Fin.isValue, aTL, aSZ, Int.toNat_natCast, hset_same, hset_o, hset_s, hset_row, ne_eq, Nat.reduceBEq, beq_self_eq_true, Fin.val_zero, Fin.val_one, fin0, fin1, fin2, fin3, Nat.le_refl, Nat.reduceLeDiff, Nat.zero_le, Int.reduceAdd, Int.reduceNeg, Int.reduceLE, Int.reduceLT, Int.reduceToNat, Int.reduceMul, Int.cast_ofNat_Int, Nat.reduceMod, ↓reduceIte, if_true, if_false, and_true, true_and, or_true, true_or, false_or, or_false, and_self, not_true_eq_false, not_false_eq_true, Bool.false_eq_true, reduceCtorEq, false_implies, true_implies, implies_true, and_false, false_and, dX2_beginBar_0, dX2_beginBar_1, dX2_beginBar_2, dX2_beginBar_3, dX2_beginBar_5, dX2_beginBar_8, dX2_beginBar_9, dX2_beginBar_12, dX2_beginBar_13, dX2_beginBar_14, dX2_beginBar_15, dX2_beginBar_18, dX2_beginBar_19, dX2_beginBar_22, dX2_beginBar_25, cpX2, mT_X2_beginBar, SHl_0, SHl_1, SHl_2, SHl_3, SHl_4, SHl_5, SHl_6, SHl_7, SHl_8, SHl_9, SHl_10, SHl_11, SHl_12, SHl_13, SHl_14, SHl_15, SHl_16, SHl_17, SHl_18, SHl_19, SHl_20, SHl_21, SHl_22, SHl_23, SHl_24, SHl_25, SHl_26, SHl_27, SHl_28, SHl_29, SHl_30, SHl_31, SHl_32, SHl_33, SHl_34, SHl_35, SHl_36, SHl_37, SHl_38, SHl_39, SHl_40, SHl_41, SHl_42, SHl_43, SHl_44, SHl_45, SHl_46, SHl_47, SHl_48, SHl_49, SHl_50, SHl_51, SHl_52, SHl_53, SHl_54, SHl_55, SHl_56, SHl_57, S_X3_headOf, b0, b1, b2, b3, b4, b5, b6, b7, Nat.add_left_cancel_iff]
      refine ⟨⟨by omega, by omega⟩, ⟨by omega, by omega⟩, fun q => by omega, fun _ => ⟨by omega, ⟨by omega, by omega⟩, ⟨by omega, by omega⟩, by omega, by omega, by omega, ?_⟩⟩
      refine ih (t + 1) (by omega) _ (only_set ho rfl) (fun x h => ?_)
      by_cases e : x = t
      · subst e
        rw [hset_same]
        rfl
      · rw [hset_s e]
        exact hx x (by omega)
  refine hK (fun q => q == 2) 100 _ _ _ _ ?_
  simp only [↓wp, ↓stp, ilen, lnth, st1, st2, nolong, nohead, rnth, ↓gfX, ↓pfX, gfV, pfV, cpF, cpP, cndZ, ↓tgo, ↓tsw, ↓lsw, ↓ldI, ↓ldA, ↓ldL, ↓stI, ↓stA, ↓stL, ↓bin, ↓binD, ↓binL, ↓binDL, ↓una, ↓acV, ↓acK, ↓acpy, ↓inv, entL, nones, List.length_cons, List.length_nil, List.take, List.drop, List.reverse_cons, List.reverse_nil, List.nil_append, List.cons_append, Option.toList_some, Option.toList_none, Nat.reduceAdd, Nat.reduceSub, Nat.reduceLT, Nat.reduceEqDiff, Fin.isValue, aTL, aSZ, Int.toNat_natCast, hset_same, hset_o, hset_s, hset_row, ne_eq, Nat.reduceBEq, beq_self_eq_true, Fin.val_zero, Fin.val_one, fin0, fin1, fin2, fin3, Nat.le_refl, Nat.reduceLeDiff, Nat.zero_le, Int.reduceAdd, Int.reduceNeg, Int.reduceLE, Int.reduceLT, Int.reduceToNat, Int.reduceMul, Int.cast_ofNat_Int, Nat.reduceMod, ↓reduceIte, if_true, if_false, and_true, true_and, or_true, true_or, false_or, or_false, and_self, not_true_eq_false, not_false_eq_true, Bool.false_eq_true, reduceCtorEq, false_implies, true_implies, implies_true, and_false, false_and, dX2_beginBar_0, dX2_beginBar_1, dX2_beginBar_2, dX2_beginBar_3, dX2_beginBar_5, dX2_beginBar_8, dX2_beginBar_9, dX2_beginBar_12, dX2_beginBar_13, dX2_beginBar_14, dX2_beginBar_15, dX2_beginBar_18, dX2_beginBar_19, dX2_beginBar_22, dX2_beginBar_25, cpX2, mT_X2_beginBar, SHl_0, SHl_1, SHl_2, SHl_3, SHl_4, SHl_5, SHl_6, SHl_7, SHl_8, SHl_9, SHl_10, SHl_11, SHl_12, SHl_13, SHl_14, SHl_15, SHl_16, SHl_17, SHl_18, SHl_19, SHl_20, SHl_21, SHl_22, SHl_23, SHl_24, SHl_25, SHl_26, SHl_27, SHl_28, SHl_29, SHl_30, SHl_31, SHl_32, SHl_33, SHl_34, SHl_35, SHl_36, SHl_37, SHl_38, SHl_39, SHl_40, SHl_41, SHl_42, SHl_43, SHl_44, SHl_45, SHl_46, SHl_47, SHl_48, SHl_49, SHl_50, SHl_51, SHl_52, SHl_53, SHl_54, SHl_55, SHl_56, SHl_57, S_X3_headOf, b0, b1, b2, b3, b4, b5, b6, b7, Nat.add_left_cancel_iff]
  exact loop 7 0 (by omega) σ (fun q _ => rfl) (fun x h => absurd h (Nat.not_lt_zero x))
def S_X2_print : MSpec := fun a σ Q => match a with
  | [.inr (.inl b), .inl n] => isBs b ∧ (0 ≤ n ∧ n < 40) ∧ (-15 ≤ σ (b + 2) n.toNat ∧ σ (b + 2) n.toNat ≤ 19) ∧ (-100 ≤ σ (b + 7) (letZ (σ (b + 2) n.toNat)).toNat ∧ σ (b + 7) (letZ (σ (b + 2) n.toNat)).toNat ≤ 100) ∧
      (if σ (b + 7) (letZ (σ (b + 2) n.toNat)).toNat = altZ (σ (b + 2) n.toNat) then Q none (hset σ (b + 3) n.toNat (-1000000)) else Q none (hset (hset (hset σ (b + 3) n.toNat (altZ (σ (b + 2) n.toNat))) (b + 7) (letZ (σ (b + 2) n.toNat)).toNat (altZ (σ (b + 2) n.toNat))) b 2 (σ b 2 + 1)))
  | _ => False
theorem rc_X2_print : ∀ a σ Q, S_X2_print a σ Q → ∃ (p : Nat) (r : List AV), a = .inr (.inl p) :: r ∧ p < 76 ∧ (SH p).1 = 4 ∧ (SH p).2.1 = 2 := by
  intro a σ Q h
  unfold S_X2_print at h
  split at h
  · exact ⟨_, _, rfl, h.1.lt, by rw [h.1.1], by rw [h.1.1]⟩
  · exact h.elim
theorem ne_add {b k : Nat} (h : 0 < k) : (b = b + k) = False := by
  apply eq_false
  omega
theorem ne_add' {b k : Nat} (h : 0 < k) : (b + k = b) = False := by
  apply eq_false
  omega
def mT_X2_print (i : Nat) : Option (Nat × Bool × MSpec) := match i with
  | 113 => some (1, false, S_X3_letterOf)
  | 117 => some (1, false, S_X3_alterOf)
  | _ => none
theorem mT_X2_print_ok {l : Launch} {n : Nat} (hn : 2 ≤ n) : ∀ i e, mT_X2_print i = some e → mV l (rmOf n) RX2 i e := by
  intro i e h
  unfold mT_X2_print at h
  split at h
  · cases h; exact mvS (lv := 1) mw_X3_letterOf (by omega) (by decide) (by decide +kernel) (Or.inl (gtm 585 (by decide +kernel) (by decide +kernel))) ok_X3_letterOf
  · cases h; exact mvS (lv := 1) mw_X3_alterOf (by omega) (by decide) (by decide +kernel) (Or.inl (gtm 586 (by decide +kernel) (by decide +kernel))) ok_X3_alterOf
  · cases h
set_option maxRecDepth 100000 in
set_option maxHeartbeats 4000000 in
theorem ok_X2_print : ∀ l n, 2 ≤ n → ∀ a σ Q, S_X2_print a σ Q → AM l n yX2_print cX2_print 4 none a σ Q := by
  intro l n hn a σ Q hS
  unfold S_X2_print at hS
  split at hS
  rotate_left
  · exact hS.elim
  rename_i b n
  obtain ⟨⟨b0, b1, b2, b3, b4, b5, b6, b7, b8⟩, n1, m1, f1, hq⟩ := hS
  refine am_ofF 0 cpX2 mT_X2_print (plainFor_of_name (by decide +kernel)) (rfl) (Nat.le_of_ble_eq_true rfl) (cpX2_ok) (mT_X2_print_ok hn) (fun K hK => ?_)
  refine hK (fun _ => false) 200 _ _ _ _ ?_
  simp only [↓wp, ↓stp, ilen, lnth, st1, st2, nolong, nohead, rnth, ↓gfX, ↓pfX, gfV, pfV, cpF, cpP, cndZ, ↓tgo, ↓tsw, ↓lsw, ↓ldI, ↓ldA, ↓ldL, ↓stI, ↓stA, ↓stL, ↓bin, ↓binD, ↓binL, ↓binDL, ↓una, ↓acV, ↓acK, ↓acpy, ↓inv, entL, nones, List.length_cons, List.length_nil, List.take, List.drop, List.reverse_cons, List.reverse_nil, List.nil_append, List.cons_append, Option.toList_some, Option.toList_none, Nat.reduceAdd, Nat.reduceSub, Nat.reduceLT, Nat.reduceEqDiff, Fin.isValue, aTL, aSZ, Int.toNat_natCast, hset_same, hset_o, hset_s, hset_row, ne_eq, Nat.reduceBEq, beq_self_eq_true, Fin.val_zero, Fin.val_one, fin0, fin1, fin2, fin3, Nat.le_refl, Nat.reduceLeDiff, Nat.zero_le, Int.reduceAdd, Int.reduceNeg, Int.reduceLE, Int.reduceLT, Int.reduceToNat, Int.reduceMul, Int.cast_ofNat_Int, Nat.reduceMod, ↓reduceIte, if_true, if_false, and_true, true_and, or_true, true_or, false_or, or_false, and_self, not_true_eq_false, not_false_eq_true, Bool.false_eq_true, reduceCtorEq, false_implies, true_implies, implies_true, and_false, false_and, dX2_print_0, dX2_print_1, dX2_print_4, dX2_print_5, dX2_print_6, dX2_print_9, dX2_print_10, dX2_print_11, dX2_print_14, dX2_print_15, dX2_print_16, dX2_print_19, dX2_print_20, dX2_print_21, dX2_print_24, dX2_print_25, dX2_print_26, dX2_print_27, dX2_print_30, dX2_print_31, dX2_print_34, dX2_print_35, dX2_print_37, dX2_print_38, dX2_print_41, dX2_print_42, dX2_print_45, dX2_print_46, dX2_print_47, dX2_print_48, dX2_print_49, dX2_print_52, dX2_print_53, dX2_print_54, dX2_print_55, dX2_print_56, dX2_print_57, dX2_print_60, dX2_print_61, dX2_print_62, dX2_print_65, cpX2, mT_X2_print, SHl_0, SHl_1, SHl_2, SHl_3, SHl_4, SHl_5, SHl_6, SHl_7, SHl_8, SHl_9, SHl_10, SHl_11, SHl_12, SHl_13, SHl_14, SHl_15, SHl_16, SHl_17, SHl_18, SHl_19, SHl_20, SHl_21, SHl_22, SHl_23, SHl_24, SHl_25, SHl_26, SHl_27, SHl_28, SHl_29, SHl_30, SHl_31, SHl_32, SHl_33, SHl_34, SHl_35, SHl_36, SHl_37, SHl_38, SHl_39, SHl_40, SHl_41, SHl_42, SHl_43, SHl_44, SHl_45, SHl_46, SHl_47, SHl_48, SHl_49, SHl_50, SHl_51, SHl_52, SHl_53, SHl_54, SHl_55, SHl_56, SHl_57, S_X3_alterOf, S_X3_letterOf, b0, b1, b2, b3, b4, b5, b6, b7, Nat.add_left_cancel_iff, ne_add, ne_add', Nat.zero_lt_succ]
  unfold letZ altZ at *

  (repeat' (first | apply And.intro | intro _)) <;> first | omega | exact hq | (rw [if_pos (by omega)] at hq; exact hq) | (rw [if_neg (by omega)] at hq; exact hq) | (repeat (first | rw [if_pos (by omega)] at hq | rw [if_neg (by omega)] at hq)) <;> exact hq | assumption | exact R32_of _
