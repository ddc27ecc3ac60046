/-! ===== the class: what chords are asked ===== -/
def S_X1_leave : MSpec := fun a σ Q => match a with
  | [.inr (.inl 42), .inl b] => (0 ≤ σ 42 0 ∧ σ 42 0 < 16) ∧ Q none (pushG 42 0 43 σ b)
  | _ => False
theorem rc_X1_leave : ∀ a σ Q, S_X1_leave a σ Q → ∃ (p : Nat) (r : List AV), a = .inr (.inl p) :: r ∧ p < 76 ∧ (SH p).1 = 4 ∧ (SH p).2.1 = 1 := by
  intro a σ Q h
  unfold S_X1_leave at h
  split at h
  · exact ⟨42, _, rfl, by decide, rfl, rfl⟩
  · exact h.elim
def mT_X1_leave (i : Nat) : Option (Nat × Bool × MSpec) := match i with
  | _ => none
theorem mT_X1_leave_ok {l : Launch} {n : Nat} (hn : 0 ≤ n) : ∀ i e, mT_X1_leave i = some e → mV l (rmOf n) RX1 i e := by
  intro i e h
  unfold mT_X1_leave at h
  split at h
  · cases h
set_option maxRecDepth 100000 in
set_option maxHeartbeats 4000000 in
theorem ok_X1_leave : ∀ l n, 0 ≤ n → ∀ a σ Q, S_X1_leave a σ Q → AM l n yX1_leave cX1_leave 2 none a σ Q := by
  intro l n hn a σ Q hS
  unfold S_X1_leave at hS
  split at hS
  rotate_left
  · exact hS.elim
  rename_i b
  obtain ⟨h1, hq⟩ := hS
  refine am_ofF 0 cpX1 mT_X1_leave (plainFor_of_name (by decide +kernel)) (rfl) (Nat.le_of_ble_eq_true rfl) (cpX1_ok) (mT_X1_leave_ok hn) (fun K hK => ?_)
  refine hK (fun _ => false) 200 _ _ _ _ ?_
  simp only [↓wp, ↓stp, ilen, lnth, st1, st2, nolong, nohead, rnth, ↓gfX, ↓pfX, gfV, pfV, cpF, cpP, cndZ, ↓tgo, ↓tsw, ↓lsw, ↓ldI, ↓ldA, ↓ldL, ↓stI, ↓stA, ↓stL, ↓bin, ↓binD, ↓binL, ↓binDL, ↓una, ↓acV, ↓acK, ↓acpy, ↓inv, entL, nones, List.length_cons, List.length_nil, List.take, List.drop, List.reverse_cons, List.reverse_nil, List.nil_append, List.cons_append, Option.toList_some, Option.toList_none, Nat.reduceAdd, Nat.reduceSub, Nat.reduceLT, Nat.reduceEqDiff, Fin.isValue, aTL, aSZ, Int.toNat_natCast, hset_same, hset_o, hset_s, hset_row, ne_eq, Nat.reduceBEq, beq_self_eq_true, Fin.val_zero, Fin.val_one, fin0, fin1, fin2, fin3, Nat.le_refl, Nat.reduceLeDiff, Nat.zero_le, Int.reduceAdd, Int.reduceNeg, Int.reduceLE, Int.reduceLT, Int.reduceToNat, Int.reduceMul, Int.cast_ofNat_Int, Nat.reduceMod, ↓reduceIte, if_true, if_false, and_true, true_and, or_true, true_or, false_or, or_false, and_self, not_true_eq_false, not_false_eq_true, Bool.false_eq_true, reduceCtorEq, false_implies, true_implies, implies_true, and_false, false_and, dX1_leave_0, dX1_leave_1, dX1_leave_4, dX1_leave_6, dX1_leave_9, dX1_leave_10, dX1_leave_13, dX1_leave_14, dX1_leave_17, dX1_leave_18, dX1_leave_19, dX1_leave_20, dX1_leave_21, dX1_leave_24, dX1_leave_25, dX1_leave_26, dX1_leave_29, cpX1, mT_X1_leave, SHl_42, SHl_43, SHl_76, SHl_77, SHl_78]
  unfold pushG at hq
  (repeat' (first | apply And.intro | intro _)) <;> first | omega | exact hq | (rw [if_pos (by omega)] at hq; exact hq) | (rw [if_neg (by omega)] at hq; exact hq) | (repeat (first | rw [if_pos (by omega)] at hq | rw [if_neg (by omega)] at hq)) <;> exact hq | assumption | exact R32_of _
/-- a body whose bodies below it are fewer than r -/
def okB (r : Nat) (kd b : Int) : Prop := (b = 10 ∧ 1 ≤ r) ∨ (b = 20 ∧ 1 ≤ r) ∨ (b = 21 ∧ 2 ≤ r) ∨ (b = 22 ∧ 3 ≤ r) ∨ (b = 24 ∧ 3 ≤ r) ∨ (b = 13 ∧ 2 ≤ r) ∨ (b = 14 ∧ 3 ≤ r) ∨ (b = 11 ∧ kd = 1 ∧ 3 ≤ r) ∨ (b = 11 ∧ kd = 2 ∧ 4 ≤ r) ∨ (b = 11 ∧ kd = 3 ∧ 4 ≤ r) ∨ (b = 12 ∧ kd = 2 ∧ 5 ≤ r) ∨ (b = 23 ∧ kd = 4 ∧ 3 ≤ r) ∨ (b = 23 ∧ kd = 5 ∧ 4 ≤ r)
def rnA (kd c n x b : Int) : Int := if b = 10 then n else if b = 20 then c else if b = 21 then c + x else if b = 22 then c + x - 1000 else if b = 24 then 2 * (c + x) else if b = 13 then n - 100 else if b = 14 then 2 * (n - 100) else if b = 11 then n + mkA kd (c + x) else if b = 12 then -(n + mkA kd (c + x)) else if kd = 5 then c - 2 * (n - 100) else c - (n - 100)
def rnL (kd b : Int) : List Int := if b = 10 then [10] else if b = 20 then [20] else if b = 21 then [21, 20] else if b = 22 then [22, 21, 20] else if b = 24 then [24, 21, 20] else if b = 13 then [13, 10] else if b = 14 then [14, 13, 10] else if b = 11 then 11 :: 10 :: mkL kd else if b = 12 then 12 :: 11 :: 10 :: mkL kd else if kd = 5 then [23, 20, 14, 13, 10] else [23, 20, 13, 10]
def S_run (r : Nat) : MSpec := fun a σ Q => match a with
  | [.inr (.inl 42), .inl b, .inl d] => okB r (σ 42 2) b ∧ (0 ≤ d ∧ d + r ≤ 9) ∧ (0 ≤ σ 42 0 ∧ σ 42 0 + (rnL (σ 42 2) b).length ≤ 16) ∧ Q (some (.inl (rnA (σ 42 2) (σ 42 3) (σ 42 4) (σ 42 5) b))) (pushL 42 0 43 σ (rnL (σ 42 2) b))
  | _ => False
theorem rc_run (r : Nat) : ∀ a σ Q, S_run r a σ Q → ∃ (p : Nat) (r : List AV), a = .inr (.inl p) :: r ∧ p < 76 ∧ (SH p).1 = 4 ∧ (SH p).2.1 = 1 := by
  intro a σ Q h
  unfold S_run at h
  split at h
  · exact ⟨42, _, rfl, by decide, rfl, rfl⟩
  · exact h.elim
def mT_X1_run (r : Nat) (i : Nat) : Option (Nat × Bool × MSpec) := match i with
  | 38 => some (3, true, S_run r)
  | 42 => some (2, true, S_X1_leave)
  | _ => none
theorem mT_X1_run_ok {l : Launch} {n r : Nat} (hn : r + 1 ≤ n) (ok : ∀ l n, r ≤ n → ∀ a σ Q, S_run r a σ Q → AM l n yX1_run cX1_run 4 (some .int) a σ Q) : ∀ i e, mT_X1_run r i = some e → mV l (rmOf n) RX1 i e := by
  intro i e h
  unfold mT_X1_run at h
  split at h
  · cases h; exact mvI (lv := r) (ci := 1) (T := TX1) (N := 6) mw_X1_run rfl (by omega) (by decide) (by decide +kernel) (gtm 707 (by decide +kernel) (by decide +kernel)) (rc_run r) ok
  · cases h; exact mvI (lv := 0) (ci := 1) (T := TX1) (N := 6) mw_X1_leave rfl (by omega) (by decide) (by decide +kernel) (gtm 711 (by decide +kernel) (by decide +kernel)) rc_X1_leave ok_X1_leave
  · cases h
theorem gmk1 : ([20, 21, 24, 22, 23, 23] : List Int).getD 1 0 = 21 := rfl
theorem gmk2 : ([20, 21, 24, 22, 23, 23] : List Int).getD 2 0 = 24 := rfl
theorem gmk3 : ([20, 21, 24, 22, 23, 23] : List Int).getD 3 0 = 22 := rfl
theorem gmk4 : ([20, 21, 24, 22, 23, 23] : List Int).getD 4 0 = 23 := rfl
theorem gmk5 : ([20, 21, 24, 22, 23, 23] : List Int).getD 5 0 = 23 := rfl
theorem gsz1 : ([10, 11, 12, 11, 13, 14] : List Int).getD 1 0 = 11 := rfl
theorem gsz2 : ([10, 11, 12, 11, 13, 14] : List Int).getD 2 0 = 12 := rfl
theorem gsz3 : ([10, 11, 12, 11, 13, 14] : List Int).getD 3 0 = 11 := rfl
theorem gsz4 : ([10, 11, 12, 11, 13, 14] : List Int).getD 4 0 = 13 := rfl
theorem gsz5 : ([10, 11, 12, 11, 13, 14] : List Int).getD 5 0 = 14 := rfl
theorem pq0 {σ : HP} {b : Int} : pushG 42 0 43 σ b 42 0 = σ 42 0 + 1 := hset_same
theorem pq2 {σ : HP} {b : Int} : pushG 42 0 43 σ b 42 2 = σ 42 2 := pushG_s (by decide) (by decide)
theorem pq3 {σ : HP} {b : Int} : pushG 42 0 43 σ b 42 3 = σ 42 3 := pushG_s (by decide) (by decide)
theorem pq4 {σ : HP} {b : Int} : pushG 42 0 43 σ b 42 4 = σ 42 4 := pushG_s (by decide) (by decide)
theorem pq5 {σ : HP} {b : Int} : pushG 42 0 43 σ b 42 5 = σ 42 5 := pushG_s (by decide) (by decide)
theorem ok_run : ∀ r l n, r ≤ n → ∀ a σ Q, S_run r a σ Q → AM l n yX1_run cX1_run 4 (some .int) a σ Q
  | 0, l, n, hn, a, σ, Q, hS => by
    unfold S_run at hS
    split at hS
    rotate_left
    · exact hS.elim
    obtain ⟨h1, -⟩ := hS
    unfold okB at h1
    omega
  | r + 1, l, n, hn, a, σ, Q, hS => by
    unfold S_run at hS
    split at hS
    rotate_left
    · exact hS.elim
    rename_i b d
    obtain ⟨hB, hd, hlen, hq⟩ := hS
    refine am_ofF 1 cpX1 (mT_X1_run r) (plainFor_of_name (by decide +kernel)) (rfl) (Nat.le_of_ble_eq_true rfl) (cpX1_ok) (mT_X1_run_ok hn (ok_run r)) (fun K hK => ?_)
    obtain ⟨kd, hkd⟩ : ∃ kd, σ 42 2 = kd := ⟨_, rfl⟩
    rw [hkd] at hB hlen hq
    rcases hB with ⟨rfl, hr⟩ | ⟨rfl, hr⟩ | ⟨rfl, hr⟩ | ⟨rfl, hr⟩ | ⟨rfl, hr⟩ | ⟨rfl, hr⟩ | ⟨rfl, hr⟩ | ⟨rfl, rfl, hr⟩ | ⟨rfl, rfl, hr⟩ | ⟨rfl, rfl, hr⟩ | ⟨rfl, rfl, hr⟩ | ⟨rfl, rfl, hr⟩ | ⟨rfl, rfl, hr⟩
    all_goals simp only [rnL, rnA, mkL, mkA, pushL, List.length_cons, List.length_nil, Int.reduceEq, if_true, if_false, Nat.reduceAdd] at hq hlen
    all_goals refine hK (fun _ => false) 60 _ _ _ _ ?_
    all_goals simp only [↓wp, ↓stp, ilen, lnth, st1, st2, nolong, nohead, rnth, ↓gfX, ↓pfX, gfV, pfV, cpF, cpP, cndZ, ↓tgo, ↓tsw, ↓lsw, ↓ldI, ↓ldA, ↓ldL, ↓stI, ↓stA, ↓stL, ↓bin, ↓binD, ↓binL, ↓binDL, ↓una, ↓acV, ↓acK, ↓acpy, ↓inv, entL, nones, List.length_cons, List.length_nil, List.take, List.drop, List.reverse_cons, List.reverse_nil, List.nil_append, List.cons_append, Option.toList_some, Option.toList_none, Nat.reduceAdd, Nat.reduceSub, Nat.reduceLT, Nat.reduceEqDiff, Fin.isValue, aTL, aSZ, Int.toNat_natCast, hset_same, hset_o, hset_s, hset_row, ne_eq, Nat.reduceBEq, beq_self_eq_true, Fin.val_zero, Fin.val_one, fin0, fin1, fin2, fin3, Nat.le_refl, Nat.reduceLeDiff, Nat.zero_le, Int.reduceAdd, Int.reduceNeg, Int.reduceLE, Int.reduceLT, Int.reduceToNat, Int.reduceMul, Int.cast_ofNat_Int, Nat.reduceMod, ↓reduceIte, if_true, if_false, and_true, true_and, or_true, true_or, false_or, or_false, and_self, not_true_eq_false, not_false_eq_true, Bool.false_eq_true, reduceCtorEq, false_implies, true_implies, implies_true, and_false, false_and, dX1_run_0, dX1_run_1, dX1_run_3, dX1_run_6, dX1_run_7, dX1_run_8, dX1_run_9, dX1_run_10, dX1_run_13, dX1_run_14, dX1_run_15, dX1_run_16, dX1_run_17, dX1_run_18, dX1_run_88, dX1_run_89, dX1_run_92, dX1_run_93, dX1_run_94, dX1_run_96, dX1_run_97, dX1_run_100, dX1_run_101, dX1_run_104, dX1_run_105, dX1_run_108, dX1_run_109, dX1_run_110, dX1_run_113, dX1_run_114, dX1_run_115, dX1_run_116, dX1_run_118, dX1_run_119, dX1_run_122, dX1_run_123, dX1_run_124, dX1_run_125, dX1_run_127, dX1_run_128, dX1_run_131, dX1_run_133, dX1_run_134, dX1_run_135, dX1_run_136, dX1_run_137, dX1_run_139, dX1_run_140, dX1_run_143, dX1_run_144, dX1_run_145, dX1_run_146, dX1_run_149, dX1_run_150, dX1_run_151, dX1_run_153, dX1_run_154, dX1_run_157, dX1_run_158, dX1_run_161, dX1_run_162, dX1_run_163, dX1_run_164, dX1_run_166, dX1_run_167, dX1_run_170, dX1_run_173, dX1_run_174, dX1_run_175, dX1_run_176, dX1_run_178, dX1_run_179, dX1_run_182, dX1_run_183, dX1_run_186, dX1_run_187, dX1_run_190, dX1_run_191, dX1_run_192, dX1_run_195, dX1_run_196, dX1_run_197, dX1_run_198, dX1_run_199, dX1_run_201, dX1_run_202, dX1_run_205, dX1_run_206, cpX1, mT_X1_run, SHl_42, SHl_43, SHl_76, SHl_77, SHl_78, S_X1_leave, S_run, pq0, pq2, pq3, pq4, pq5, roS, hkd, okB, rnL, rnA, mkL, mkA, pushL, Int.reduceEq, Int.reduceGT, gmk1, gmk2, gmk3, gmk4, gmk5, gsz1, gsz2, gsz3, gsz4, gsz5]
    all_goals ((repeat' (first | exact hq | apply And.intro | intro _)) <;> first | omega | skip)
def S_X1_run : MSpec := S_run 5
theorem rc_X1_run : ∀ a σ Q, S_X1_run a σ Q → ∃ (p : Nat) (r : List AV), a = .inr (.inl p) :: r ∧ p < 76 ∧ (SH p).1 = 4 ∧ (SH p).2.1 = 1 := rc_run 5
theorem ok_X1_run : ∀ l n, 12 ≤ n → ∀ a σ Q, S_X1_run a σ Q → AM l n yX1_run cX1_run 4 (some .int) a σ Q := fun l n hn a σ Q h => ok_run 5 l n (by omega) a σ Q h
theorem akL_len {w kd : Int} : (akL w kd).length ≤ 6 := by
  unfold akL szL mkL
  (repeat' split) <;> simp
def begS (σ : HP) (kd c n x : Int) : HP := hset (hset (hset (hset (hset σ 42 2 kd) 42 3 c) 42 4 n) 42 5 x) 42 0 0
def S_X1_begin : MSpec := fun a σ Q => match a with
  | [.inr (.inl 42), .inl w, .inl kd, .inl c, .inl n, .inl x] => (w = 0 ∨ w = 1) ∧ (1 ≤ kd ∧ kd ≤ 5) ∧ Q (some (.inl (akA w kd c n x))) (pushL 42 0 43 (begS σ kd c n x) (akL w kd))
  | _ => False
theorem rc_X1_begin : ∀ a σ Q, S_X1_begin a σ Q → ∃ (p : Nat) (r : List AV), a = .inr (.inl p) :: r ∧ p < 76 ∧ (SH p).1 = 4 ∧ (SH p).2.1 = 1 := by
  intro a σ Q h
  unfold S_X1_begin at h
  split at h
  · exact ⟨42, _, rfl, by decide, rfl, rfl⟩
  · exact h.elim
def mT_X1_begin (i : Nat) : Option (Nat × Bool × MSpec) := match i with
  | 38 => some (3, true, S_X1_run)
  | _ => none
theorem mT_X1_begin_ok {l : Launch} {n : Nat} (hn : 13 ≤ n) : ∀ i e, mT_X1_begin i = some e → mV l (rmOf n) RX1 i e := by
  intro i e h
  unfold mT_X1_begin at h
  split at h
  · cases h; exact mvI (lv := 12) (ci := 1) (T := TX1) (N := 6) mw_X1_run rfl (by omega) (by decide) (by decide +kernel) (gtm 707 (by decide +kernel) (by decide +kernel)) rc_X1_run ok_X1_run
  · cases h
set_option maxRecDepth 100000 in
set_option maxHeartbeats 16000000 in
theorem ok_X1_begin : ∀ l n, 13 ≤ n → ∀ a σ Q, S_X1_begin a σ Q → AM l n yX1_begin cX1_begin 6 (some .int) a σ Q := by
  intro l n hn a σ Q hS
  unfold S_X1_begin at hS
  split at hS
  rotate_left
  · exact hS.elim
  rename_i w kd c nn x
  obtain ⟨hw, hk, hq⟩ := hS
  refine am_ofF 1 cpX1 mT_X1_begin (plainFor_of_name (by decide +kernel)) (rfl) (Nat.le_of_ble_eq_true rfl) (cpX1_ok) (mT_X1_begin_ok hn) (fun K hK => ?_)
  rcases hw with rfl | rfl <;> rcases (show kd = 1 ∨ kd = 2 ∨ kd = 3 ∨ kd = 4 ∨ kd = 5 by omega) with rfl | rfl | rfl | rfl | rfl
  all_goals simp only [akL, akA, szL, szA, mkL, mkA, begS, Int.reduceEq, if_true, if_false] at hq
  all_goals refine hK (fun _ => false) 60 _ _ _ _ ?_
  all_goals simp only [↓wp, ↓stp, ilen, lnth, st1, st2, nolong, nohead, rnth, ↓gfX, ↓pfX, gfV, pfV, cpF, cpP, cndZ, ↓tgo, ↓tsw, ↓lsw, ↓ldI, ↓ldA, ↓ldL, ↓stI, ↓stA, ↓stL, ↓bin, ↓binD, ↓binL, ↓binDL, ↓una, ↓acV, ↓acK, ↓acpy, ↓inv, entL, nones, List.length_cons, List.length_nil, List.take, List.drop, List.reverse_cons, List.reverse_nil, List.nil_append, List.cons_append, Option.toList_some, Option.toList_none, Nat.reduceAdd, Nat.reduceSub, Nat.reduceLT, Nat.reduceEqDiff, Fin.isValue, aTL, aSZ, Int.toNat_natCast, hset_same, hset_o, hset_s, hset_row, ne_eq, Nat.reduceBEq, beq_self_eq_true, Fin.val_zero, Fin.val_one, fin0, fin1, fin2, fin3, Nat.le_refl, Nat.reduceLeDiff, Nat.zero_le, Int.reduceAdd, Int.reduceNeg, Int.reduceLE, Int.reduceLT, Int.reduceToNat, Int.reduceMul, Int.cast_ofNat_Int, Nat.reduceMod, ↓reduceIte, if_true, if_false, and_true, true_and, or_true, true_or, false_or, or_false, and_self, not_true_eq_false, not_false_eq_true, Bool.false_eq_true, reduceCtorEq, false_implies, true_implies, implies_true, and_false, false_and, dX1_begin_0, dX1_begin_1, dX1_begin_2, dX1_begin_5, dX1_begin_6, dX1_begin_7, dX1_begin_10, dX1_begin_11, dX1_begin_13, dX1_begin_16, dX1_begin_17, dX1_begin_19, dX1_begin_22, dX1_begin_23, dX1_begin_24, dX1_begin_27, dX1_begin_28, dX1_begin_29, dX1_begin_32, dX1_begin_35, dX1_begin_36, dX1_begin_37, dX1_begin_40, dX1_begin_43, dX1_begin_44, dX1_begin_45, dX1_begin_46, dX1_begin_49, cpX1, mT_X1_begin, SHl_42, SHl_43, SHl_76, SHl_77, SHl_78, S_X1_run, S_run, roS, okB, rnL, rnA, mkL, mkA, Int.reduceEq, Int.reduceGT, gmk1, gmk2, gmk3, gmk4, gmk5, gsz1, gsz2, gsz3, gsz4, gsz5]
  all_goals ((repeat' (first | exact hq | apply And.intro | intro _)) <;> first | omega | skip)
