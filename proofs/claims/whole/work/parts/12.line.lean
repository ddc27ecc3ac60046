/-! ===== Math, Line ===== -/
theorem zxor_neg {x y : Int} (hx : R32 x) (hy : R32 y) (h : 0 < y) : 0 ≤ zxor x y ↔ 0 ≤ x := by
  have e : (zxor x y < 0) ↔ x < 0 := by
    have h1 : (iI x ^^^ iI y).toBitVec.msb = ((iI x).toBitVec.msb ^^ (iI y).toBitVec.msb) := by
      rw [Int32.toBitVec_xor, BitVec.msb_xor]
    have h2 : ∀ z : Int32, z.toBitVec.msb = decide (z.toInt < 0) := fun z => BitVec.msb_eq_toInt
    rw [h2, h2, h2, iI_toInt hx, iI_toInt hy] at h1
    have h3 : ¬ y < 0 := by omega
    simp only [h3, decide_false, Bool.xor_false] at h1
    have h4 := decide_eq_decide.mp h1
    exact h4
  omega
theorem tmod_pos {x y : Int} (h : 0 < y) : (0 ≤ x → x.tmod y = x % y) ∧ (¬ 0 ≤ x → (x.tmod y = 0 → x.tmod y = x % y) ∧ (¬ x.tmod y = 0 → x.tmod y + y = x % y)) := by
  have e1 := Int.emod_nonneg x (show y ≠ 0 by omega)
  have e2 := Int.emod_lt_of_pos x h
  have e4 : (y.natAbs : Int) = y := by omega
  refine ⟨fun q => Int.tmod_eq_emod_of_nonneg q, fun q => ?_⟩
  by_cases hd : y ∣ x
  · have e3 : x.tmod y = x % y := by rw [Int.tmod_eq_emod, if_pos (Or.inr hd)]; simp
    have e5 := Int.emod_eq_zero_of_dvd hd
    exact ⟨fun _ => e3, fun z => absurd (e3.trans e5) z⟩
  · have e3 : x.tmod y = x % y - y := by
      rw [Int.tmod_eq_emod, if_neg (fun z => z.elim q hd), e4]
    exact ⟨fun z => by omega, fun z => by omega⟩
theorem tmod_R32 {x y : Int} (hy : R32 y) (h : 0 < y) : R32 (x.tmod y) := by
  obtain ⟨r1, r2⟩ := hy
  have h3 := Int.lt_tmod_of_pos x h
  have h4 := Int.tmod_lt_of_pos x h
  exact ⟨by omega, by omega⟩
def S_J9_floorMod_7cf53 : MSpec := fun a σ Q => match a with
  | [.inl x, .inl y] => R32 x ∧ R32 y ∧ 0 < y ∧ Q (some (.inl (x % y))) σ
  | _ => False
def mT_J9_floorMod_7cf53 (i : Nat) : Option (Nat × Bool × MSpec) := match i with
  | _ => none
theorem mT_J9_floorMod_7cf53_ok {l : Launch} {n : Nat} (hn : 0 ≤ n) : ∀ i e, mT_J9_floorMod_7cf53 i = some e → mV l (rmOf n) RJ9 i e := by
  intro i e h
  unfold mT_J9_floorMod_7cf53 at h
  split at h
  · cases h
set_option maxRecDepth 100000 in
set_option maxHeartbeats 4000000 in
theorem ok_J9_floorMod_7cf53 : ∀ l n, 0 ≤ n → ∀ a σ Q, S_J9_floorMod_7cf53 a σ Q → AM l n yJ9_floorMod_7cf53 cJ9_floorMod_7cf53 3 (some .int) a σ Q := by
  intro l n hn a σ Q hS
  unfold S_J9_floorMod_7cf53 at hS
  split at hS
  rotate_left
  · exact hS.elim
  rename_i x y
  obtain ⟨r1, r2, hy, hq⟩ := hS
  refine am_ofF 1 cpN mT_J9_floorMod_7cf53 (by decide +kernel) (rfl) (Nat.le_of_ble_eq_true rfl) (cpN_ok _) (mT_J9_floorMod_7cf53_ok hn) (fun K hK => ?_)
  refine hK (fun _ => false) 200 _ _ _ _ ?_
  simp only [↓wp, ↓stp, ilen, lnth, st1, st2, nolong, nohead, rnth, ↓gfX, ↓pfX, gfV, pfV, cpF, cpP, cndZ, ↓tgo, ↓tsw, ↓lsw, ↓ldI, ↓ldA, ↓ldL, ↓stI, ↓stA, ↓stL, ↓bin, ↓binD, ↓binL, ↓binDL, ↓una, ↓acV, ↓acK, ↓acpy, ↓inv, entL, nones, List.length_cons, List.length_nil, List.take, List.drop, List.reverse_cons, List.reverse_nil, List.nil_append, List.cons_append, Option.toList_some, Option.toList_none, Nat.reduceAdd, Nat.reduceSub, Nat.reduceLT, Nat.reduceEqDiff, Fin.isValue, aTL, aSZ, Int.toNat_natCast, hset_same, hset_o, hset_s, hset_row, ne_eq, Nat.reduceBEq, beq_self_eq_true, Fin.val_zero, Fin.val_one, fin0, fin1, fin2, fin3, Nat.le_refl, Nat.reduceLeDiff, Nat.zero_le, Int.reduceAdd, Int.reduceNeg, Int.reduceLE, Int.reduceLT, Int.reduceToNat, Int.reduceMul, Int.cast_ofNat_Int, Nat.reduceMod, ↓reduceIte, if_true, if_false, and_true, true_and, or_true, true_or, false_or, or_false, and_self, not_true_eq_false, not_false_eq_true, Bool.false_eq_true, reduceCtorEq, false_implies, true_implies, implies_true, and_false, false_and, dJ9_floorMod_7cf53_0, dJ9_floorMod_7cf53_1, dJ9_floorMod_7cf53_2, dJ9_floorMod_7cf53_3, dJ9_floorMod_7cf53_4, dJ9_floorMod_7cf53_5, dJ9_floorMod_7cf53_6, dJ9_floorMod_7cf53_7, dJ9_floorMod_7cf53_10, dJ9_floorMod_7cf53_11, dJ9_floorMod_7cf53_14, dJ9_floorMod_7cf53_15, dJ9_floorMod_7cf53_16, dJ9_floorMod_7cf53_17, dJ9_floorMod_7cf53_18, dJ9_floorMod_7cf53_19, cpN, mT_J9_floorMod_7cf53]
  have h1 := zxor_neg r1 r2 hy
  obtain ⟨h2, h3⟩ := tmod_pos (x := x) hy
  refine ⟨r1, r2, by omega, R32_of _, fun q => ?_, fun q => ⟨tmod_R32 r2 hy, fun z => ?_, fun z => ?_⟩⟩
  · rw [h2 (h1.mp q)]; exact hq
  · rw [(h3 (fun w => q (h1.mpr w))).1 z]; exact hq
  · rw [(h3 (fun w => q (h1.mpr w))).2 z]; exact hq
theorem tdiv_7 (x : Int) : (0 ≤ x → x.tdiv 7 = x / 7) ∧ (¬ 0 ≤ x → (x.tdiv 7 * 7 = x → x.tdiv 7 = x / 7) ∧ (¬ x.tdiv 7 * 7 = x → x.tdiv 7 - 1 = x / 7)) := by
  refine ⟨fun q => Int.tdiv_eq_ediv_of_nonneg q, fun q => ?_⟩
  by_cases hd : (7 : Int) ∣ x
  · have e3 : x.tdiv 7 = x / 7 := Int.tdiv_eq_ediv_of_dvd hd
    rw [e3]
    omega
  · have e3 : x.tdiv 7 = x / 7 + 1 := by
      rw [Int.tdiv_eq_ediv, if_neg (fun z => z.elim q hd)]
      rfl
    rw [e3]
    omega
theorem tdiv_R32 {x : Int} (hx : R32 x) : R32 (x.tdiv 7 * 7) := by
  obtain ⟨r1, r2⟩ := hx
  obtain ⟨h1, h2⟩ := tdiv_7 x
  by_cases q : 0 ≤ x
  · rw [h1 q]; exact ⟨by omega, by omega⟩
  · by_cases z : x.tdiv 7 * 7 = x
    · rw [z]; exact ⟨r1, r2⟩
    · have := (h2 q).2 z
      exact ⟨by omega, by omega⟩
def S_J9_floorDiv_7cf53 : MSpec := fun a σ Q => match a with
  | [.inl x, .inl y] => R32 x ∧ y = 7 ∧ Q (some (.inl (x / 7))) σ
  | _ => False
def mT_J9_floorDiv_7cf53 (i : Nat) : Option (Nat × Bool × MSpec) := match i with
  | _ => none
theorem mT_J9_floorDiv_7cf53_ok {l : Launch} {n : Nat} (hn : 0 ≤ n) : ∀ i e, mT_J9_floorDiv_7cf53 i = some e → mV l (rmOf n) RJ9 i e := by
  intro i e h
  unfold mT_J9_floorDiv_7cf53 at h
  split at h
  · cases h
set_option maxRecDepth 100000 in
set_option maxHeartbeats 4000000 in
theorem ok_J9_floorDiv_7cf53 : ∀ l n, 0 ≤ n → ∀ a σ Q, S_J9_floorDiv_7cf53 a σ Q → AM l n yJ9_floorDiv_7cf53 cJ9_floorDiv_7cf53 3 (some .int) a σ Q := by
  intro l n hn a σ Q hS
  unfold S_J9_floorDiv_7cf53 at hS
  split at hS
  rotate_left
  · exact hS.elim
  rename_i x y
  obtain ⟨r1, rfl, hq⟩ := hS
  refine am_ofF 1 cpN mT_J9_floorDiv_7cf53 (by decide +kernel) (rfl) (Nat.le_of_ble_eq_true rfl) (cpN_ok _) (mT_J9_floorDiv_7cf53_ok hn) (fun K hK => ?_)
  refine hK (fun _ => false) 200 _ _ _ _ ?_
  simp only [↓wp, ↓stp, ilen, lnth, st1, st2, nolong, nohead, rnth, ↓gfX, ↓pfX, gfV, pfV, cpF, cpP, cndZ, ↓tgo, ↓tsw, ↓lsw, ↓ldI, ↓ldA, ↓ldL, ↓stI, ↓stA, ↓stL, ↓bin, ↓binD, ↓binL, ↓binDL, ↓una, ↓acV, ↓acK, ↓acpy, ↓inv, entL, nones, List.length_cons, List.length_nil, List.take, List.drop, List.reverse_cons, List.reverse_nil, List.nil_append, List.cons_append, Option.toList_some, Option.toList_none, Nat.reduceAdd, Nat.reduceSub, Nat.reduceLT, Nat.reduceEqDiff, Fin.isValue, aTL, aSZ, Int.toNat_natCast, hset_same, hset_o, hset_s, hset_row, ne_eq, Nat.reduceBEq, beq_self_eq_true, Fin.val_zero, Fin.val_one, fin0, fin1, fin2, fin3, Nat.le_refl, Nat.reduceLeDiff, Nat.zero_le, Int.reduceAdd, Int.reduceNeg, Int.reduceLE, Int.reduceLT, Int.reduceToNat, Int.reduceMul, Int.cast_ofNat_Int, Nat.reduceMod, ↓reduceIte, if_true, if_false, and_true, true_and, or_true, true_or, false_or, or_false, and_self, not_true_eq_false, not_false_eq_true, Bool.false_eq_true, reduceCtorEq, false_implies, true_implies, implies_true, and_false, false_and, dJ9_floorDiv_7cf53_0, dJ9_floorDiv_7cf53_1, dJ9_floorDiv_7cf53_2, dJ9_floorDiv_7cf53_3, dJ9_floorDiv_7cf53_4, dJ9_floorDiv_7cf53_5, dJ9_floorDiv_7cf53_6, dJ9_floorDiv_7cf53_7, dJ9_floorDiv_7cf53_10, dJ9_floorDiv_7cf53_11, dJ9_floorDiv_7cf53_12, dJ9_floorDiv_7cf53_13, dJ9_floorDiv_7cf53_14, dJ9_floorDiv_7cf53_17, dJ9_floorDiv_7cf53_18, dJ9_floorDiv_7cf53_19, dJ9_floorDiv_7cf53_20, dJ9_floorDiv_7cf53_21, dJ9_floorDiv_7cf53_22, cpN, mT_J9_floorDiv_7cf53]
  have r2 : R32 7 := ⟨by decide, by decide⟩
  have h1 := zxor_neg r1 r2 (by decide)
  obtain ⟨h2, h3⟩ := tdiv_7 x
  refine ⟨r1, r2, by decide, R32_of _, fun q => ?_, fun q => ⟨tdiv_R32 r1, r1, fun z => ?_, fun z => ?_⟩⟩
  · rw [h2 (h1.mp q)]; exact hq
  · rw [(h3 (fun w => q (h1.mpr w))).1 z]; exact hq
  · rw [(h3 (fun w => q (h1.mpr w))).2 z]; exact hq
def S_J9_abs_0f7a4 : MSpec := fun a σ Q => match a with
  | [.inl x] => R32 x ∧ Q (some (.inl (x.natAbs : Int))) σ
  | _ => False
def mT_J9_abs_0f7a4 (i : Nat) : Option (Nat × Bool × MSpec) := match i with
  | _ => none
theorem mT_J9_abs_0f7a4_ok {l : Launch} {n : Nat} (hn : 0 ≤ n) : ∀ i e, mT_J9_abs_0f7a4 i = some e → mV l (rmOf n) RJ9 i e := by
  intro i e h
  unfold mT_J9_abs_0f7a4 at h
  split at h
  · cases h
set_option maxRecDepth 100000 in
set_option maxHeartbeats 4000000 in
theorem ok_J9_abs_0f7a4 : ∀ l n, 0 ≤ n → ∀ a σ Q, S_J9_abs_0f7a4 a σ Q → AM l n yJ9_abs_0f7a4 cJ9_abs_0f7a4 1 (some .int) a σ Q := by
  intro l n hn a σ Q hS
  unfold S_J9_abs_0f7a4 at hS
  split at hS
  rotate_left
  · exact hS.elim
  rename_i x
  obtain ⟨r1, hq⟩ := hS
  refine am_ofF 1 cpN mT_J9_abs_0f7a4 (by decide +kernel) (rfl) (Nat.le_of_ble_eq_true rfl) (cpN_ok _) (mT_J9_abs_0f7a4_ok hn) (fun K hK => ?_)
  refine hK (fun _ => false) 200 _ _ _ _ ?_
  simp only [↓wp, ↓stp, ilen, lnth, st1, st2, nolong, nohead, rnth, ↓gfX, ↓pfX, gfV, pfV, cpF, cpP, cndZ, ↓tgo, ↓tsw, ↓lsw, ↓ldI, ↓ldA, ↓ldL, ↓stI, ↓stA, ↓stL, ↓bin, ↓binD, ↓binL, ↓binDL, ↓una, ↓acV, ↓acK, ↓acpy, ↓inv, entL, nones, List.length_cons, List.length_nil, List.take, List.drop, List.reverse_cons, List.reverse_nil, List.nil_append, List.cons_append, Option.toList_some, Option.toList_none, Nat.reduceAdd, Nat.reduceSub, Nat.reduceLT, Nat.reduceEqDiff, Fin.isValue, aTL, aSZ, Int.toNat_natCast, hset_same, hset_o, hset_s, hset_row, ne_eq, Nat.reduceBEq, beq_self_eq_true, Fin.val_zero, Fin.val_one, fin0, fin1, fin2, fin3, Nat.le_refl, Nat.reduceLeDiff, Nat.zero_le, Int.reduceAdd, Int.reduceNeg, Int.reduceLE, Int.reduceLT, Int.reduceToNat, Int.reduceMul, Int.cast_ofNat_Int, Nat.reduceMod, ↓reduceIte, if_true, if_false, and_true, true_and, or_true, true_or, false_or, or_false, and_self, not_true_eq_false, not_false_eq_true, Bool.false_eq_true, reduceCtorEq, false_implies, true_implies, implies_true, and_false, false_and, dJ9_abs_0f7a4_0, dJ9_abs_0f7a4_1, dJ9_abs_0f7a4_4, dJ9_abs_0f7a4_5, dJ9_abs_0f7a4_6, dJ9_abs_0f7a4_9, dJ9_abs_0f7a4_10, cpN, mT_J9_abs_0f7a4]
  refine ⟨r1, fun q => ?_, fun q => ?_⟩
  · rw [show (x.natAbs : Int) = x by omega] at hq; exact hq
  · rw [show (x.natAbs : Int) = -x by omega] at hq; exact hq
def S_J9_min_f86c9 : MSpec := fun a σ Q => match a with
  | [.inr (.inr x), .inr (.inr y)] => R64 x ∧ R64 y ∧ Q (some (.inr (.inr (min x y)))) σ
  | _ => False
def mT_J9_min_f86c9 (i : Nat) : Option (Nat × Bool × MSpec) := match i with
  | _ => none
theorem mT_J9_min_f86c9_ok {l : Launch} {n : Nat} (hn : 0 ≤ n) : ∀ i e, mT_J9_min_f86c9 i = some e → mV l (rmOf n) RJ9 i e := by
  intro i e h
  unfold mT_J9_min_f86c9 at h
  split at h
  · cases h
set_option maxRecDepth 100000 in
set_option maxHeartbeats 4000000 in
theorem ok_J9_min_f86c9 : ∀ l n, 0 ≤ n → ∀ a σ Q, S_J9_min_f86c9 a σ Q → AM l n yJ9_min_f86c9 cJ9_min_f86c9 4 (some .long) a σ Q := by
  intro l n hn a σ Q hS
  unfold S_J9_min_f86c9 at hS
  split at hS
  rotate_left
  · exact hS.elim
  rename_i x y
  obtain ⟨r1, r2, hq⟩ := hS
  refine am_ofF 3 cpN mT_J9_min_f86c9 (by decide +kernel) (rfl) (Nat.le_of_ble_eq_true rfl) (cpN_ok _) (mT_J9_min_f86c9_ok hn) (fun K hK => ?_)
  refine hK (fun _ => false) 200 _ _ _ _ ?_
  simp only [↓wp, ↓stp, ilen, lnth, st1, st2, nolong, nohead, rnth, ↓gfX, ↓pfX, gfV, pfV, cpF, cpP, cndZ, ↓tgo, ↓tsw, ↓lsw, ↓ldI, ↓ldA, ↓ldL, ↓stI, ↓stA, ↓stL, ↓bin, ↓binD, ↓binL, ↓binDL, ↓una, ↓acV, ↓acK, ↓acpy, ↓inv, entL, nones, List.length_cons, List.length_nil, List.take, List.drop, List.reverse_cons, List.reverse_nil, List.nil_append, List.cons_append, Option.toList_some, Option.toList_none, Nat.reduceAdd, Nat.reduceSub, Nat.reduceLT, Nat.reduceEqDiff, Fin.isValue, aTL, aSZ, Int.toNat_natCast, hset_same, hset_o, hset_s, hset_row, ne_eq, Nat.reduceBEq, beq_self_eq_true, Fin.val_zero, Fin.val_one, fin0, fin1, fin2, fin3, Nat.le_refl, Nat.reduceLeDiff, Nat.zero_le, Int.reduceAdd, Int.reduceNeg, Int.reduceLE, Int.reduceLT, Int.reduceToNat, Int.reduceMul, Int.cast_ofNat_Int, Nat.reduceMod, ↓reduceIte, if_true, if_false, and_true, true_and, or_true, true_or, false_or, or_false, and_self, not_true_eq_false, not_false_eq_true, Bool.false_eq_true, reduceCtorEq, false_implies, true_implies, implies_true, and_false, false_and, dJ9_min_f86c9_0, dJ9_min_f86c9_1, dJ9_min_f86c9_2, dJ9_min_f86c9_3, dJ9_min_f86c9_6, dJ9_min_f86c9_7, dJ9_min_f86c9_10, dJ9_min_f86c9_11, cpN, mT_J9_min_f86c9]
  unfold lcmpZ
  refine ⟨r1, r2, ?_, fun q => ?_, fun q => ?_⟩
  · split
    · exact ⟨by decide, by decide⟩
    · split <;> exact ⟨by decide, by decide⟩
  · rw [show min x y = y from Int.min_eq_right (by split at q <;> omega)] at hq
    exact hq
  · rw [show min x y = x from Int.min_eq_left (by split at q <;> omega)] at hq
    exact hq
def S_X3_letterOf : MSpec := fun a σ Q => match a with
  | [.inl x] => (-100000 ≤ x ∧ x ≤ 100000) ∧ Q (some (.inl ((x + 1) % 7))) σ
  | _ => False
def mT_X3_letterOf (i : Nat) : Option (Nat × Bool × MSpec) := match i with
  | 9 => some (2, false, S_J9_floorMod_7cf53)
  | _ => none
theorem mT_X3_letterOf_ok {l : Launch} {n : Nat} (hn : 1 ≤ n) : ∀ i e, mT_X3_letterOf i = some e → mV l (rmOf n) RX3 i e := by
  intro i e h
  unfold mT_X3_letterOf at h
  split at h
  · cases h; exact mvS (lv := 0) mw_J9_floorMod_7cf53 (by omega) (by decide) (by decide +kernel) (Or.inl (gtm 497 (by decide +kernel) (by decide +kernel))) ok_J9_floorMod_7cf53
  · cases h
set_option maxRecDepth 100000 in
set_option maxHeartbeats 4000000 in
theorem ok_X3_letterOf : ∀ l n, 1 ≤ n → ∀ a σ Q, S_X3_letterOf a σ Q → AM l n yX3_letterOf cX3_letterOf 1 (some .int) a σ Q := by
  intro l n hn a σ Q hS
  unfold S_X3_letterOf at hS
  split at hS
  rotate_left
  · exact hS.elim
  rename_i x
  obtain ⟨r1, hq⟩ := hS
  refine am_ofF 1 cpN mT_X3_letterOf (plainFor_of_name (by decide +kernel)) (rfl) (Nat.le_of_ble_eq_true rfl) (cpN_ok _) (mT_X3_letterOf_ok hn) (fun K hK => ?_)
  refine hK (fun _ => false) 200 _ _ _ _ ?_
  simp only [↓wp, ↓stp, ilen, lnth, st1, st2, nolong, nohead, rnth, ↓gfX, ↓pfX, gfV, pfV, cpF, cpP, cndZ, ↓tgo, ↓tsw, ↓lsw, ↓ldI, ↓ldA, ↓ldL, ↓stI, ↓stA, ↓stL, ↓bin, ↓binD, ↓binL, ↓binDL, ↓una, ↓acV, ↓acK, ↓acpy, ↓inv, entL, nones, List.length_cons, List.length_nil, List.take, List.drop, List.reverse_cons, List.reverse_nil, List.nil_append, List.cons_append, Option.toList_some, Option.toList_none, Nat.reduceAdd, Nat.reduceSub, Nat.reduceLT, Nat.reduceEqDiff, Fin.isValue, aTL, aSZ, Int.toNat_natCast, hset_same, hset_o, hset_s, hset_row, ne_eq, Nat.reduceBEq, beq_self_eq_true, Fin.val_zero, Fin.val_one, fin0, fin1, fin2, fin3, Nat.le_refl, Nat.reduceLeDiff, Nat.zero_le, Int.reduceAdd, Int.reduceNeg, Int.reduceLE, Int.reduceLT, Int.reduceToNat, Int.reduceMul, Int.cast_ofNat_Int, Nat.reduceMod, ↓reduceIte, if_true, if_false, and_true, true_and, or_true, true_or, false_or, or_false, and_self, not_true_eq_false, not_false_eq_true, Bool.false_eq_true, reduceCtorEq, false_implies, true_implies, implies_true, and_false, false_and, dX3_letterOf_0, dX3_letterOf_1, dX3_letterOf_2, dX3_letterOf_3, dX3_letterOf_5, dX3_letterOf_8, cpN, mT_X3_letterOf, S_J9_floorMod_7cf53]
  (repeat' (first | apply And.intro | intro _)) <;> first | omega | exact hq | (rw [if_pos (by omega)] at hq; exact hq) | (rw [if_neg (by omega)] at hq; exact hq) | (repeat (first | rw [if_pos (by omega)] at hq | rw [if_neg (by omega)] at hq)) <;> exact hq | assumption | exact R32_of _
def S_X3_alterOf : MSpec := fun a σ Q => match a with
  | [.inl x] => (-100000 ≤ x ∧ x ≤ 100000) ∧ Q (some (.inl ((x + 1) / 7))) σ
  | _ => False
def mT_X3_alterOf (i : Nat) : Option (Nat × Bool × MSpec) := match i with
  | 15 => some (2, false, S_J9_floorDiv_7cf53)
  | _ => none
theorem mT_X3_alterOf_ok {l : Launch} {n : Nat} (hn : 1 ≤ n) : ∀ i e, mT_X3_alterOf i = some e → mV l (rmOf n) RX3 i e := by
  intro i e h
  unfold mT_X3_alterOf at h
  split at h
  · cases h; exact mvS (lv := 0) mw_J9_floorDiv_7cf53 (by omega) (by decide) (by decide +kernel) (Or.inl (gtm 501 (by decide +kernel) (by decide +kernel))) ok_J9_floorDiv_7cf53
  · cases h
set_option maxRecDepth 100000 in
set_option maxHeartbeats 4000000 in
theorem ok_X3_alterOf : ∀ l n, 1 ≤ n → ∀ a σ Q, S_X3_alterOf a σ Q → AM l n yX3_alterOf cX3_alterOf 1 (some .int) a σ Q := by
  intro l n hn a σ Q hS
  unfold S_X3_alterOf at hS
  split at hS
  rotate_left
  · exact hS.elim
  rename_i x
  obtain ⟨r1, hq⟩ := hS
  refine am_ofF 1 cpN mT_X3_alterOf (plainFor_of_name (by decide +kernel)) (rfl) (Nat.le_of_ble_eq_true rfl) (cpN_ok _) (mT_X3_alterOf_ok hn) (fun K hK => ?_)
  refine hK (fun _ => false) 200 _ _ _ _ ?_
  simp only [↓wp, ↓stp, ilen, lnth, st1, st2, nolong, nohead, rnth, ↓gfX, ↓pfX, gfV, pfV, cpF, cpP, cndZ, ↓tgo, ↓tsw, ↓lsw, ↓ldI, ↓ldA, ↓ldL, ↓stI, ↓stA, ↓stL, ↓bin, ↓binD, ↓binL, ↓binDL, ↓una, ↓acV, ↓acK, ↓acpy, ↓inv, entL, nones, List.length_cons, List.length_nil, List.take, List.drop, List.reverse_cons, List.reverse_nil, List.nil_append, List.cons_append, Option.toList_some, Option.toList_none, Nat.reduceAdd, Nat.reduceSub, Nat.reduceLT, Nat.reduceEqDiff, Fin.isValue, aTL, aSZ, Int.toNat_natCast, hset_same, hset_o, hset_s, hset_row, ne_eq, Nat.reduceBEq, beq_self_eq_true, Fin.val_zero, Fin.val_one, fin0, fin1, fin2, fin3, Nat.le_refl, Nat.reduceLeDiff, Nat.zero_le, Int.reduceAdd, Int.reduceNeg, Int.reduceLE, Int.reduceLT, Int.reduceToNat, Int.reduceMul, Int.cast_ofNat_Int, Nat.reduceMod, ↓reduceIte, if_true, if_false, and_true, true_and, or_true, true_or, false_or, or_false, and_self, not_true_eq_false, not_false_eq_true, Bool.false_eq_true, reduceCtorEq, false_implies, true_implies, implies_true, and_false, false_and, dX3_alterOf_0, dX3_alterOf_1, dX3_alterOf_2, dX3_alterOf_3, dX3_alterOf_5, dX3_alterOf_8, cpN, mT_X3_alterOf, S_J9_floorDiv_7cf53]
  (repeat' (first | apply And.intro | intro _)) <;> first | omega | exact hq | (rw [if_pos (by omega)] at hq; exact hq) | (rw [if_neg (by omega)] at hq; exact hq) | (repeat (first | rw [if_pos (by omega)] at hq | rw [if_neg (by omega)] at hq)) <;> exact hq | assumption | exact R32_of _
def S_X3_keyOf : MSpec := fun a σ Q => match a with
  | [.inl x] => (-100000 ≤ x ∧ x ≤ 100000) ∧ Q (some (.inl (7 * x % 12))) σ
  | _ => False
def mT_X3_keyOf (i : Nat) : Option (Nat × Bool × MSpec) := match i with
  | 9 => some (2, false, S_J9_floorMod_7cf53)
  | _ => none
theorem mT_X3_keyOf_ok {l : Launch} {n : Nat} (hn : 1 ≤ n) : ∀ i e, mT_X3_keyOf i = some e → mV l (rmOf n) RX3 i e := by
  intro i e h
  unfold mT_X3_keyOf at h
  split at h
  · cases h; exact mvS (lv := 0) mw_J9_floorMod_7cf53 (by omega) (by decide) (by decide +kernel) (Or.inl (gtm 497 (by decide +kernel) (by decide +kernel))) ok_J9_floorMod_7cf53
  · cases h
set_option maxRecDepth 100000 in
set_option maxHeartbeats 4000000 in
theorem ok_X3_keyOf : ∀ l n, 1 ≤ n → ∀ a σ Q, S_X3_keyOf a σ Q → AM l n yX3_keyOf cX3_keyOf 1 (some .int) a σ Q := by
  intro l n hn a σ Q hS
  unfold S_X3_keyOf at hS
  split at hS
  rotate_left
  · exact hS.elim
  rename_i x
  obtain ⟨r1, hq⟩ := hS
  refine am_ofF 1 cpN mT_X3_keyOf (plainFor_of_name (by decide +kernel)) (rfl) (Nat.le_of_ble_eq_true rfl) (cpN_ok _) (mT_X3_keyOf_ok hn) (fun K hK => ?_)
  refine hK (fun _ => false) 200 _ _ _ _ ?_
  simp only [↓wp, ↓stp, ilen, lnth, st1, st2, nolong, nohead, rnth, ↓gfX, ↓pfX, gfV, pfV, cpF, cpP, cndZ, ↓tgo, ↓tsw, ↓lsw, ↓ldI, ↓ldA, ↓ldL, ↓stI, ↓stA, ↓stL, ↓bin, ↓binD, ↓binL, ↓binDL, ↓una, ↓acV, ↓acK, ↓acpy, ↓inv, entL, nones, List.length_cons, List.length_nil, List.take, List.drop, List.reverse_cons, List.reverse_nil, List.nil_append, List.cons_append, Option.toList_some, Option.toList_none, Nat.reduceAdd, Nat.reduceSub, Nat.reduceLT, Nat.reduceEqDiff, Fin.isValue, aTL, aSZ, Int.toNat_natCast, hset_same, hset_o, hset_s, hset_row, ne_eq, Nat.reduceBEq, beq_self_eq_true, Fin.val_zero, Fin.val_one, fin0, fin1, fin2, fin3, Nat.le_refl, Nat.reduceLeDiff, Nat.zero_le, Int.reduceAdd, Int.reduceNeg, Int.reduceLE, Int.reduceLT, Int.reduceToNat, Int.reduceMul, Int.cast_ofNat_Int, Nat.reduceMod, ↓reduceIte, if_true, if_false, and_true, true_and, or_true, true_or, false_or, or_false, and_self, not_true_eq_false, not_false_eq_true, Bool.false_eq_true, reduceCtorEq, false_implies, true_implies, implies_true, and_false, false_and, dX3_keyOf_0, dX3_keyOf_2, dX3_keyOf_3, dX3_keyOf_4, dX3_keyOf_6, dX3_keyOf_9, cpN, mT_X3_keyOf, S_J9_floorMod_7cf53]
  (repeat' (first | apply And.intro | intro _)) <;> first | omega | exact hq | (rw [if_pos (by omega)] at hq; exact hq) | (rw [if_neg (by omega)] at hq; exact hq) | (repeat (first | rw [if_pos (by omega)] at hq | rw [if_neg (by omega)] at hq)) <;> exact hq | assumption | exact R32_of _
def S_X3_placeIn : MSpec := fun a σ Q => match a with
  | [.inl w, .inl k] => (-100000 ≤ w ∧ w ≤ 100000) ∧ (-100000 ≤ k ∧ k ≤ 100000) ∧ Q (some (.inl (w + (7 * k - w) % 12))) σ
  | _ => False
def mT_X3_placeIn (i : Nat) : Option (Nat × Bool × MSpec) := match i with
  | 9 => some (2, false, S_J9_floorMod_7cf53)
  | _ => none
theorem mT_X3_placeIn_ok {l : Launch} {n : Nat} (hn : 1 ≤ n) : ∀ i e, mT_X3_placeIn i = some e → mV l (rmOf n) RX3 i e := by
  intro i e h
  unfold mT_X3_placeIn at h
  split at h
  · cases h; exact mvS (lv := 0) mw_J9_floorMod_7cf53 (by omega) (by decide) (by decide +kernel) (Or.inl (gtm 497 (by decide +kernel) (by decide +kernel))) ok_J9_floorMod_7cf53
  · cases h
set_option maxRecDepth 100000 in
set_option maxHeartbeats 4000000 in
theorem ok_X3_placeIn : ∀ l n, 1 ≤ n → ∀ a σ Q, S_X3_placeIn a σ Q → AM l n yX3_placeIn cX3_placeIn 2 (some .int) a σ Q := by
  intro l n hn a σ Q hS
  unfold S_X3_placeIn at hS
  split at hS
  rotate_left
  · exact hS.elim
  rename_i w k
  obtain ⟨r1, r2, hq⟩ := hS
  refine am_ofF 1 cpN mT_X3_placeIn (plainFor_of_name (by decide +kernel)) (rfl) (Nat.le_of_ble_eq_true rfl) (cpN_ok _) (mT_X3_placeIn_ok hn) (fun K hK => ?_)
  refine hK (fun _ => false) 200 _ _ _ _ ?_
  simp only [↓wp, ↓stp, ilen, lnth, st1, st2, nolong, nohead, rnth, ↓gfX, ↓pfX, gfV, pfV, cpF, cpP, cndZ, ↓tgo, ↓tsw, ↓lsw, ↓ldI, ↓ldA, ↓ldL, ↓stI, ↓stA, ↓stL, ↓bin, ↓binD, ↓binL, ↓binDL, ↓una, ↓acV, ↓acK, ↓acpy, ↓inv, entL, nones, List.length_cons, List.length_nil, List.take, List.drop, List.reverse_cons, List.reverse_nil, List.nil_append, List.cons_append, Option.toList_some, Option.toList_none, Nat.reduceAdd, Nat.reduceSub, Nat.reduceLT, Nat.reduceEqDiff, Fin.isValue, aTL, aSZ, Int.toNat_natCast, hset_same, hset_o, hset_s, hset_row, ne_eq, Nat.reduceBEq, beq_self_eq_true, Fin.val_zero, Fin.val_one, fin0, fin1, fin2, fin3, Nat.le_refl, Nat.reduceLeDiff, Nat.zero_le, Int.reduceAdd, Int.reduceNeg, Int.reduceLE, Int.reduceLT, Int.reduceToNat, Int.reduceMul, Int.cast_ofNat_Int, Nat.reduceMod, ↓reduceIte, if_true, if_false, and_true, true_and, or_true, true_or, false_or, or_false, and_self, not_true_eq_false, not_false_eq_true, Bool.false_eq_true, reduceCtorEq, false_implies, true_implies, implies_true, and_false, false_and, dX3_placeIn_0, dX3_placeIn_1, dX3_placeIn_3, dX3_placeIn_4, dX3_placeIn_5, dX3_placeIn_6, dX3_placeIn_7, dX3_placeIn_9, dX3_placeIn_12, dX3_placeIn_13, cpN, mT_X3_placeIn, S_J9_floorMod_7cf53]
  (repeat' (first | apply And.intro | intro _)) <;> first | omega | exact hq | (rw [if_pos (by omega)] at hq; exact hq) | (rw [if_neg (by omega)] at hq; exact hq) | (repeat (first | rw [if_pos (by omega)] at hq | rw [if_neg (by omega)] at hq)) <;> exact hq | assumption | exact R32_of _
def S_X3_headOf : MSpec := fun a σ Q => match a with
  | [.inl g, .inl t] => (-100000 ≤ g ∧ g ≤ 100000) ∧ (-100000 ≤ t ∧ t ≤ 100000) ∧ Q (some (.inl (if t < g - 7 then 1 else if g ≤ t then -1 else 0))) σ
  | _ => False
def mT_X3_headOf (i : Nat) : Option (Nat × Bool × MSpec) := match i with
  | _ => none
theorem mT_X3_headOf_ok {l : Launch} {n : Nat} (hn : 0 ≤ n) : ∀ i e, mT_X3_headOf i = some e → mV l (rmOf n) RX3 i e := by
  intro i e h
  unfold mT_X3_headOf at h
  split at h
  · cases h
set_option maxRecDepth 100000 in
set_option maxHeartbeats 4000000 in
theorem ok_X3_headOf : ∀ l n, 0 ≤ n → ∀ a σ Q, S_X3_headOf a σ Q → AM l n yX3_headOf cX3_headOf 2 (some .int) a σ Q := by
  intro l n hn a σ Q hS
  unfold S_X3_headOf at hS
  split at hS
  rotate_left
  · exact hS.elim
  rename_i g t
  obtain ⟨r1, r2, hq⟩ := hS
  refine am_ofF 1 cpN mT_X3_headOf (plainFor_of_name (by decide +kernel)) (rfl) (Nat.le_of_ble_eq_true rfl) (cpN_ok _) (mT_X3_headOf_ok hn) (fun K hK => ?_)
  refine hK (fun _ => false) 200 _ _ _ _ ?_
  simp only [↓wp, ↓stp, ilen, lnth, st1, st2, nolong, nohead, rnth, ↓gfX, ↓pfX, gfV, pfV, cpF, cpP, cndZ, ↓tgo, ↓tsw, ↓lsw, ↓ldI, ↓ldA, ↓ldL, ↓stI, ↓stA, ↓stL, ↓bin, ↓binD, ↓binL, ↓binDL, ↓una, ↓acV, ↓acK, ↓acpy, ↓inv, entL, nones, List.length_cons, List.length_nil, List.take, List.drop, List.reverse_cons, List.reverse_nil, List.nil_append, List.cons_append, Option.toList_some, Option.toList_none, Nat.reduceAdd, Nat.reduceSub, Nat.reduceLT, Nat.reduceEqDiff, Fin.isValue, aTL, aSZ, Int.toNat_natCast, hset_same, hset_o, hset_s, hset_row, ne_eq, Nat.reduceBEq, beq_self_eq_true, Fin.val_zero, Fin.val_one, fin0, fin1, fin2, fin3, Nat.le_refl, Nat.reduceLeDiff, Nat.zero_le, Int.reduceAdd, Int.reduceNeg, Int.reduceLE, Int.reduceLT, Int.reduceToNat, Int.reduceMul, Int.cast_ofNat_Int, Nat.reduceMod, ↓reduceIte, if_true, if_false, and_true, true_and, or_true, true_or, false_or, or_false, and_self, not_true_eq_false, not_false_eq_true, Bool.false_eq_true, reduceCtorEq, false_implies, true_implies, implies_true, and_false, false_and, dX3_headOf_0, dX3_headOf_1, dX3_headOf_2, dX3_headOf_4, dX3_headOf_5, dX3_headOf_8, dX3_headOf_9, dX3_headOf_10, dX3_headOf_11, dX3_headOf_12, dX3_headOf_15, dX3_headOf_16, dX3_headOf_19, dX3_headOf_20, cpN, mT_X3_headOf]
  refine ⟨⟨by omega, by omega⟩, ⟨by omega, by omega⟩, fun q => ⟨⟨by omega, by omega⟩, ⟨by omega, by omega⟩, fun z => ?_, fun z => ?_⟩, fun q => ?_⟩
  · rw [if_neg (by omega), if_neg (by omega)] at hq; exact hq
  · rw [if_neg (by omega), if_pos (by omega)] at hq; exact hq
  · rw [if_pos (by omega)] at hq; exact hq
