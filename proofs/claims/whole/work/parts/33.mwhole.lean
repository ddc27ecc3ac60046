/-! ===== the reference: whole, cost ===== -/
/-- what may have changed where nothing is kept -/
def scP : Nat → Prop := fun q => q = 58 ∨ q = 66 ∨ q = 70 ∨ q = 71 ∨ q = 72 ∨ q = 73 ∨ q = 74
def mS (σ τ : HP) : Prop := only σ τ scP ∧ ∀ j, j ≠ 23 → τ 58 j = σ 58 j
theorem mS_rf (σ : HP) : mS σ σ := ⟨fun _ _ => rfl, fun _ _ => rfl⟩
theorem mS_tr {σ τ ρ : HP} (h1 : mS σ τ) (h2 : mS τ ρ) : mS σ ρ := ⟨fun q hq => (h2.1 q hq).trans (h1.1 q hq), fun j hj => (h2.2 j hj).trans (h1.2 j hj)⟩
theorem mS_fd {σ τ V : HP} (h : fdOk σ τ V) : mS σ τ := ⟨fun q hq => h.1 q (by unfold fdP; unfold scP at hq; omega), h.2.1⟩
theorem mS_pr {σ τ V : HP} (h : prOk σ τ V) : mS σ τ := ⟨fun q hq => h.1 q (by unfold prP; unfold scP at hq; omega), h.2.1⟩
theorem mS_64 {σ τ : HP} (h : mS σ τ) : τ 64 = σ 64 := h.1 64 (by unfold scP; omega)
theorem bestV_b {V : HP} (hV : okV V) (h : 0 < ncV V) : 0 ≤ bestV V ∧ bestV V ≤ 840 := by
  have fo := fstN_ok (fun a => ddV V 0 a) 24 (fun x hx => by have := ddV_b hV (c := 0) (a := x) h hx; show ddV V 0 x < _; omega) (by decide)
  unfold bestV
  rw [← fo.2.1]
  exact ddV_b hV h (by omega)
/-- the least cost by a signature -/
def hcV (V : HP) (g : Nat) : Int := bestV (hset V 0 0 g)
theorem hcV_b {V : HP} (hV : okV V) (h : 0 < ncV V) {g : Nat} (hg : g < 15) : 0 ≤ hcV V g ∧ hcV V g ≤ 840 := bestV_b (okV_g hV (by omega)) (by rw [ncV_u (by omega)]; exact h)
def S_X8_costBy : MSpec := fun a σ Q => match a with
  | [.inr (.inl 58), .inl g] => okV (vM σ 64 0) ∧ 1 ≤ σ 64 1 ∧ (0 ≤ g ∧ g < 15) ∧ ∀ τ, mS σ τ → Q (some (.inl (hcV (vM σ 64 0) g.toNat))) τ
  | _ => False
theorem rc_X8_costBy : ∀ a σ Q, S_X8_costBy a σ Q → ∃ (p : Nat) (r : List AV), a = .inr (.inl p) :: r ∧ p < 76 ∧ (SH p).1 = 4 ∧ (SH p).2.1 = 7 := by
  intro a σ Q h
  unfold S_X8_costBy at h
  split at h
  · exact ⟨58, _, rfl, by decide, rfl, rfl⟩
  · exact h.elim
theorem tried_v {σ : HP} (h1 : σ 64 1 ≤ 10) (h2 : σ 64 2 ≤ 40) : vM (hcpy σ 64 0 66 0 93) 66 0 = vM σ 64 0 := by
  refine vM_cpy (fun j hj => ?_) h1 h2
  exact hcpy_in (σ := σ) (f := 64) (t := 66) (a := 0) (b := 0) (n := 93) j (by omega)
theorem tried_c {σ : HP} {j : Nat} (hj : j < 93) : hcpy σ 64 0 66 0 93 66 j = σ 64 j := by
  have := hcpy_in (σ := σ) (f := 64) (t := 66) (a := 0) (b := 0) (n := 93) j (by omega)
  simpa using this
def mT_X8_costBy (i : Nat) : Option (Nat × Bool × MSpec) := match i with
  | 147 => some (4, false, S_X8_copies)
  | 202 => some (2, true, S_X8_finds)
  | _ => none
theorem mT_X8_costBy_ok {l : Launch} {n : Nat} (hn : 7 ≤ n) : ∀ i e, mT_X8_costBy i = some e → mV l (rmOf n) RX8 i e := by
  intro i e h
  unfold mT_X8_costBy at h
  split at h
  · cases h; exact mvS (lv := 0) mw_X8_copies (by omega) (by decide) (by decide +kernel) (Or.inl (gtm 912 (by decide +kernel) (by decide +kernel))) ok_X8_copies
  · cases h; exact mvI (lv := 6) (ci := 7) (T := TX8) (N := 28) mw_X8_finds rfl (by omega) (by decide) (by decide +kernel) (gtm 1001 (by decide +kernel) (by decide +kernel)) rc_X8_finds ok_X8_finds
  · cases h
set_option maxRecDepth 100000 in
set_option maxHeartbeats 4000000 in
theorem ok_X8_costBy : ∀ l n, 7 ≤ n → ∀ a σ Q, S_X8_costBy a σ Q → AM l n yX8_costBy cX8_costBy 2 (some .int) a σ Q := by
  intro l n hn a σ Q hS
  unfold S_X8_costBy at hS
  split at hS
  rotate_left
  · exact hS.elim
  rename_i g
  obtain ⟨hV, n1, g1, hq⟩ := hS
  refine am_ofF 1 cpX8 mT_X8_costBy (plainFor_of_name (by decide +kernel)) (rfl) (Nat.le_of_ble_eq_true rfl) (cpX8_ok) (mT_X8_costBy_ok hn) (fun K hK => ?_)
  refine hK (fun _ => false) 200 _ _ _ _ ?_
  simp only [↓wp, ↓stp, ilen, lnth, st1, st2, nolong, nohead, rnth, ↓gfX, ↓pfX, gfV, pfV, cpF, cpP, cndZ, ↓tgo, ↓tsw, ↓lsw, ↓ldI, ↓ldA, ↓ldL, ↓stI, ↓stA, ↓stL, ↓bin, ↓binD, ↓binL, ↓binDL, ↓una, ↓acV, ↓acK, ↓acpy, ↓inv, entL, nones, List.length_cons, List.length_nil, List.take, List.drop, List.reverse_cons, List.reverse_nil, List.nil_append, List.cons_append, Option.toList_some, Option.toList_none, Nat.reduceAdd, Nat.reduceSub, Nat.reduceLT, Nat.reduceEqDiff, Fin.isValue, aTL, aSZ, Int.toNat_natCast, hset_same, hset_o, hset_s, hset_row, ne_eq, Nat.reduceBEq, beq_self_eq_true, Fin.val_zero, Fin.val_one, fin0, fin1, fin2, fin3, Nat.le_refl, Nat.reduceLeDiff, Nat.zero_le, Int.reduceAdd, Int.reduceNeg, Int.reduceLE, Int.reduceLT, Int.reduceToNat, Int.reduceMul, Int.cast_ofNat_Int, Nat.reduceMod, ↓reduceIte, if_true, if_false, and_true, true_and, or_true, true_or, false_or, or_false, and_self, not_true_eq_false, not_false_eq_true, Bool.false_eq_true, reduceCtorEq, false_implies, true_implies, implies_true, and_false, false_and, dX8_costBy_0, dX8_costBy_1, dX8_costBy_4, dX8_costBy_5, dX8_costBy_6, dX8_costBy_9, dX8_costBy_10, dX8_costBy_13, dX8_costBy_14, dX8_costBy_17, dX8_costBy_18, dX8_costBy_19, dX8_costBy_20, dX8_costBy_21, dX8_costBy_22, dX8_costBy_25, dX8_costBy_28, dX8_costBy_29, dX8_costBy_32, cpX8, mT_X8_costBy, SHl_58, SHl_59, SHl_60, SHl_61, SHl_62, SHl_63, SHl_64, SHl_65, SHl_66, SHl_67, SHl_68, SHl_69, SHl_70, SHl_71, SHl_72, SHl_73, SHl_74, SHl_75, S_X8_copies, S_X8_finds]
  obtain ⟨v0, v1, v2⟩ := vM_0 σ 64
  obtain ⟨o1, o2, o3, -, oc, on⟩ := id hV
  have hv : vM (hset (hcpy σ 64 0 66 0 93) 66 0 g) 66 0 = hset (vM σ 64 0) 0 0 g := by rw [vM_g, tried_v (by omega) (by omega)]
  rw [hv, tried_c (by omega)]
  refine ⟨93, 93, rfl, rfl, by omega, by omega, by omega, isW_66, okV_g hV (by omega), n1, fun τ hτ => ?_⟩
  have hq' := hq τ ⟨fun q hqq => ?_, fun j hj => ?_⟩
  · unfold hcV at hq'
    rw [show ((g.toNat : Nat) : Int) = g by omega] at hq'
    rw [hτ.2.2.1]
    exact hq'
  · rw [hτ.1 q (by unfold fdP; unfold scP at hqq; omega), hset_row (by unfold scP at hqq; omega), hcpy_f (by unfold scP at hqq; omega)]
  · rw [hτ.2.1 j hj, hset_o (by decide), hcpy_f (by decide)]
def S_X8_bestHeads : MSpec := fun a σ Q => match a with
  | [.inr (.inl 58)] => okV (vM σ 64 0) ∧ 1 ≤ σ 64 1 ∧ ∀ τ, mS σ τ → Q (some (.inl (fstN (hcV (vM σ 64 0)) 15 : Nat))) τ
  | _ => False
theorem rc_X8_bestHeads : ∀ a σ Q, S_X8_bestHeads a σ Q → ∃ (p : Nat) (r : List AV), a = .inr (.inl p) :: r ∧ p < 76 ∧ (SH p).1 = 4 ∧ (SH p).2.1 = 7 := by
  intro a σ Q h
  unfold S_X8_bestHeads at h
  split at h
  · exact ⟨58, _, rfl, by decide, rfl, rfl⟩
  · exact h.elim
def mT_X8_bestHeads (i : Nat) : Option (Nat × Bool × MSpec) := match i with
  | 231 => some (2, true, S_X8_costBy)
  | _ => none
theorem mT_X8_bestHeads_ok {l : Launch} {n : Nat} (hn : 8 ≤ n) : ∀ i e, mT_X8_bestHeads i = some e → mV l (rmOf n) RX8 i e := by
  intro i e h
  unfold mT_X8_bestHeads at h
  split at h
  · cases h; exact mvI (lv := 7) (ci := 7) (T := TX8) (N := 28) mw_X8_costBy rfl (by omega) (by decide) (by decide +kernel) (gtm 1048 (by decide +kernel) (by decide +kernel)) rc_X8_costBy ok_X8_costBy
  · cases h
set_option maxRecDepth 100000 in
set_option maxHeartbeats 16000000 in
theorem ok_X8_bestHeads : ∀ l n, 8 ≤ n → ∀ a σ Q, S_X8_bestHeads a σ Q → AM l n yX8_bestHeads cX8_bestHeads 5 (some .int) a σ Q := by
  intro l n hn a σ Q hS
  unfold S_X8_bestHeads at hS
  split at hS
  rotate_left
  · exact hS.elim
  obtain ⟨hV, n1, hq⟩ := hS
  obtain ⟨V, hVe⟩ : ∃ V, V = vM σ 64 0 := ⟨_, rfl⟩
  simp only [← hVe] at hq hV
  obtain ⟨v0, v1, v2⟩ := vM_0 σ 64
  rw [← hVe] at v0 v1 v2
  have hnc : 0 < ncV V := by unfold ncV; omega
  have hb := fun v (hv : v < 15) => hcV_b hV hnc hv
  refine am_ofF 1 cpX8 mT_X8_bestHeads (plainFor_of_name (by decide +kernel)) (rfl) (Nat.le_of_ble_eq_true rfl) (cpX8_ok) (mT_X8_bestHeads_ok hn) (fun K hK => ?_)
  have loop : ∀ (d v : Nat), v + d = 15 → 0 < v → ∀ τ, mS σ τ → ∀ u4 : Option AV, K 10 [some (.inr (.inl 58)), some (.inl (fstN (hcV V) v : Nat)), some (.inl (lstN (hcV V) v)), some (.inl (v : Int)), u4] [] τ := by
    intro d
    induction d with
    | zero =>
      intro v hv h0 τ hτ u4
      refine hK (fun q => q == 10) 60 _ _ _ _ ?_
      simp only [↓wp, ↓stp, ilen, lnth, st1, st2, nolong, nohead, rnth, ↓gfX, ↓pfX, gfV, pfV, cpF, cpP, cndZ, ↓tgo, ↓tsw, ↓lsw, ↓ldI, ↓ldA, ↓ldL, ↓stI, ↓stA, ↓stL, ↓bin, ↓binD, ↓binL, ↓binDL, ↓una, ↓acV, ↓acK, ↓acpy, ↓inv, entL, nones, List.length_cons, List.length_nil, List.take, List.drop, List.reverse_cons, List.reverse_nil, List.nil_append, List.cons_append, Option.toList_some, Option.toList_none, Nat.reduceAdd, Nat.reduceSub, Nat.reduceLT, Nat.reduceEqDiff, Fin.isValue, aTL, aSZ, Int.toNat_natCast, hset_same, hset_o, hset_s, hset_row, ne_eq, Nat.reduceBEq, beq_self_eq_true, Fin.val_zero, Fin.val_one, fin0, fin1, fin2, fin3, Nat.le_refl, Nat.reduceLeDiff, Nat.zero_le, Int.reduceAdd, Int.reduceNeg, Int.reduceLE, Int.reduceLT, Int.reduceToNat, Int.reduceMul, Int.cast_ofNat_Int, Nat.reduceMod, ↓reduceIte, if_true, if_false, and_true, true_and, or_true, true_or, false_or, or_false, and_self, not_true_eq_false, not_false_eq_true, Bool.false_eq_true, reduceCtorEq, false_implies, true_implies, implies_true, and_false, false_and, dX8_bestHeads_0, dX8_bestHeads_1, dX8_bestHeads_2, dX8_bestHeads_3, dX8_bestHeads_4, dX8_bestHeads_7, dX8_bestHeads_8, dX8_bestHeads_9, dX8_bestHeads_10, dX8_bestHeads_11, dX8_bestHeads_13, dX8_bestHeads_16, dX8_bestHeads_17, dX8_bestHeads_18, dX8_bestHeads_21, dX8_bestHeads_23, dX8_bestHeads_25, dX8_bestHeads_26, dX8_bestHeads_29, dX8_bestHeads_30, dX8_bestHeads_33, dX8_bestHeads_34, dX8_bestHeads_35, dX8_bestHeads_37, dX8_bestHeads_38, dX8_bestHeads_41, dX8_bestHeads_43, dX8_bestHeads_46, dX8_bestHeads_47, dX8_bestHeads_48, dX8_bestHeads_51, dX8_bestHeads_54, dX8_bestHeads_55, cpX8, mT_X8_bestHeads, SHl_58, SHl_59, SHl_60, SHl_61, SHl_62, SHl_63, SHl_64, SHl_65, SHl_66, SHl_67, SHl_68, SHl_69, SHl_70, SHl_71, SHl_72, SHl_73, SHl_74, SHl_75, S_X8_costBy]
      have hq' := hq τ hτ
      rw [show 15 = v by omega] at hq'
      exact ⟨⟨by omega, by omega⟩, ⟨by omega, by omega⟩, fun _ => hq', fun q => by omega⟩
    | succ d ih =>
      intro v hv h0 τ hτ u4
      have fo := fstN_ok (hcV V) v (fun b hbb => by have := hb b (by omega); omega) h0
      have b1 := hb v (by omega)
      have b2 := hb _ (show fstN (hcV V) v < 15 by omega)
      rw [fo.2.1] at b2
      refine hK (fun q => q == 10) 60 _ _ _ _ ?_
      simp only [↓wp, ↓stp, ilen, lnth, st1, st2, nolong, nohead, rnth, ↓gfX, ↓pfX, gfV, pfV, cpF, cpP, cndZ, ↓tgo, ↓tsw, ↓lsw, ↓ldI, ↓ldA, ↓ldL, ↓stI, ↓stA, ↓stL, ↓bin, ↓binD, ↓binL, ↓binDL, ↓una, ↓acV, ↓acK, ↓acpy, ↓inv, entL, nones, List.length_cons, List.length_nil, List.take, List.drop, List.reverse_cons, List.reverse_nil, List.nil_append, List.cons_append, Option.toList_some, Option.toList_none, Nat.reduceAdd, Nat.reduceSub, Nat.reduceLT, Nat.reduceEqDiff, Fin.isValue, aTL, aSZ, Int.toNat_natCast, hset_same, hset_o, hset_s, hset_row, ne_eq, Nat.reduceBEq, beq_self_eq_true, Fin.val_zero, Fin.val_one, fin0, fin1, fin2, fin3, Nat.le_refl, Nat.reduceLeDiff, Nat.zero_le, Int.reduceAdd, Int.reduceNeg, Int.reduceLE, Int.reduceLT, Int.reduceToNat, Int.reduceMul, Int.cast_ofNat_Int, Nat.reduceMod, ↓reduceIte, if_true, if_false, and_true, true_and, or_true, true_or, false_or, or_false, and_self, not_true_eq_false, not_false_eq_true, Bool.false_eq_true, reduceCtorEq, false_implies, true_implies, implies_true, and_false, false_and, dX8_bestHeads_0, dX8_bestHeads_1, dX8_bestHeads_2, dX8_bestHeads_3, dX8_bestHeads_4, dX8_bestHeads_7, dX8_bestHeads_8, dX8_bestHeads_9, dX8_bestHeads_10, dX8_bestHeads_11, dX8_bestHeads_13, dX8_bestHeads_16, dX8_bestHeads_17, dX8_bestHeads_18, dX8_bestHeads_21, dX8_bestHeads_23, dX8_bestHeads_25, dX8_bestHeads_26, dX8_bestHeads_29, dX8_bestHeads_30, dX8_bestHeads_33, dX8_bestHeads_34, dX8_bestHeads_35, dX8_bestHeads_37, dX8_bestHeads_38, dX8_bestHeads_41, dX8_bestHeads_43, dX8_bestHeads_46, dX8_bestHeads_47, dX8_bestHeads_48, dX8_bestHeads_51, dX8_bestHeads_54, dX8_bestHeads_55, cpX8, mT_X8_bestHeads, SHl_58, SHl_59, SHl_60, SHl_61, SHl_62, SHl_63, SHl_64, SHl_65, SHl_66, SHl_67, SHl_68, SHl_69, SHl_70, SHl_71, SHl_72, SHl_73, SHl_74, SHl_75, S_X8_costBy]
      rw [vM_only (mS_64 hτ), ← hVe, mS_64 hτ]
      refine ⟨⟨by omega, by omega⟩, ⟨by omega, by omega⟩, fun q => by omega, fun _ => ⟨hV, n1, ⟨by omega, by omega⟩, fun ρ hρ => ?_⟩⟩
      have hx := ih (v + 1) (by omega) (by omega) ρ (mS_tr hτ hρ)
      rw [lstN_s, fstN_s] at hx
      by_cases e : hcV V v < lstN (hcV V) v
      · rw [if_pos e, if_pos e] at hx
        (repeat' (first | apply And.intro | intro _)) <;> first | omega | exact hx _
      · rw [if_neg e, if_neg e] at hx
        (repeat' (first | apply And.intro | intro _)) <;> first | omega | exact hx _
  refine hK (fun q => q == 10) 60 _ _ _ _ ?_
  simp only [↓wp, ↓stp, ilen, lnth, st1, st2, nolong, nohead, rnth, ↓gfX, ↓pfX, gfV, pfV, cpF, cpP, cndZ, ↓tgo, ↓tsw, ↓lsw, ↓ldI, ↓ldA, ↓ldL, ↓stI, ↓stA, ↓stL, ↓bin, ↓binD, ↓binL, ↓binDL, ↓una, ↓acV, ↓acK, ↓acpy, ↓inv, entL, nones, List.length_cons, List.length_nil, List.take, List.drop, List.reverse_cons, List.reverse_nil, List.nil_append, List.cons_append, Option.toList_some, Option.toList_none, Nat.reduceAdd, Nat.reduceSub, Nat.reduceLT, Nat.reduceEqDiff, Fin.isValue, aTL, aSZ, Int.toNat_natCast, hset_same, hset_o, hset_s, hset_row, ne_eq, Nat.reduceBEq, beq_self_eq_true, Fin.val_zero, Fin.val_one, fin0, fin1, fin2, fin3, Nat.le_refl, Nat.reduceLeDiff, Nat.zero_le, Int.reduceAdd, Int.reduceNeg, Int.reduceLE, Int.reduceLT, Int.reduceToNat, Int.reduceMul, Int.cast_ofNat_Int, Nat.reduceMod, ↓reduceIte, if_true, if_false, and_true, true_and, or_true, true_or, false_or, or_false, and_self, not_true_eq_false, not_false_eq_true, Bool.false_eq_true, reduceCtorEq, false_implies, true_implies, implies_true, and_false, false_and, dX8_bestHeads_0, dX8_bestHeads_1, dX8_bestHeads_2, dX8_bestHeads_3, dX8_bestHeads_4, dX8_bestHeads_7, dX8_bestHeads_8, dX8_bestHeads_9, dX8_bestHeads_10, dX8_bestHeads_11, dX8_bestHeads_13, dX8_bestHeads_16, dX8_bestHeads_17, dX8_bestHeads_18, dX8_bestHeads_21, dX8_bestHeads_23, dX8_bestHeads_25, dX8_bestHeads_26, dX8_bestHeads_29, dX8_bestHeads_30, dX8_bestHeads_33, dX8_bestHeads_34, dX8_bestHeads_35, dX8_bestHeads_37, dX8_bestHeads_38, dX8_bestHeads_41, dX8_bestHeads_43, dX8_bestHeads_46, dX8_bestHeads_47, dX8_bestHeads_48, dX8_bestHeads_51, dX8_bestHeads_54, dX8_bestHeads_55, cpX8, mT_X8_bestHeads, SHl_58, SHl_59, SHl_60, SHl_61, SHl_62, SHl_63, SHl_64, SHl_65, SHl_66, SHl_67, SHl_68, SHl_69, SHl_70, SHl_71, SHl_72, SHl_73, SHl_74, SHl_75, S_X8_costBy, ← hVe]
  refine ⟨hV, n1, fun τ hτ => ?_⟩
  have hx := loop 14 1 (by omega) (by omega) τ hτ
  have b0 := hb 0 (by omega)
  have e1 : fstN (hcV V) 1 = 0 := by simp [fstN]
  have e2 : lstN (hcV V) 1 = hcV V 0 := by
    rw [lstN_s]
    exact if_pos (show hcV V 0 < 1000000 by omega)
  rw [e1, e2] at hx
  exact hx _
def pcZ (V : HP) (x : Int) : Nat → Int
  | 0 => 0
  | c + 1 => pcZ V x c + pV V c x
theorem pcZ_b {V : HP} (hV : okV V) {x : Int} (h1 : -15 ≤ x) (h2 : x ≤ 8) : ∀ c, c ≤ ncV V → 0 ≤ pcZ V x c ∧ pcZ V x c ≤ 84 * c
  | 0, _ => by unfold pcZ; omega
  | c + 1, h => by
    have i := pcZ_b hV h1 h2 c (by omega)
    have p := pV_b (V := V) (c := c) (x := x) hV (by unfold ncV at h; have := hV.2.1; omega) h1 h2
    unfold pcZ
    omega
def S_X8_plainCost : MSpec := fun a σ Q => match a with
  | [.inr (.inl 58), .inl x] => okV (vM σ 64 0) ∧ (-15 ≤ x ∧ x ≤ 8) ∧ Q (some (.inl (pcZ (vM σ 64 0) x (ncV (vM σ 64 0))))) σ
  | _ => False
theorem rc_X8_plainCost : ∀ a σ Q, S_X8_plainCost a σ Q → ∃ (p : Nat) (r : List AV), a = .inr (.inl p) :: r ∧ p < 76 ∧ (SH p).1 = 4 ∧ (SH p).2.1 = 7 := by
  intro a σ Q h
  unfold S_X8_plainCost at h
  split at h
  · exact ⟨58, _, rfl, by decide, rfl, rfl⟩
  · exact h.elim
def mT_X8_plainCost (i : Nat) : Option (Nat × Bool × MSpec) := match i with
  | 192 => some (3, false, S_X8_priceOf)
  | _ => none
theorem mT_X8_plainCost_ok {l : Launch} {n : Nat} (hn : 5 ≤ n) : ∀ i e, mT_X8_plainCost i = some e → mV l (rmOf n) RX8 i e := by
  intro i e h
  unfold mT_X8_plainCost at h
  split at h
  · cases h; exact mvS (lv := 4) mw_X8_priceOf (by omega) (by decide) (by decide +kernel) (Or.inl (gtm 1019 (by decide +kernel) (by decide +kernel))) ok_X8_priceOf
  · cases h
set_option maxRecDepth 100000 in
set_option maxHeartbeats 16000000 in
theorem ok_X8_plainCost : ∀ l n, 5 ≤ n → ∀ a σ Q, S_X8_plainCost a σ Q → AM l n yX8_plainCost cX8_plainCost 4 (some .int) a σ Q := by
  intro l n hn a σ Q hS
  unfold S_X8_plainCost at hS
  split at hS
  rotate_left
  · exact hS.elim
  rename_i x
  obtain ⟨hV, x1, hq⟩ := hS
  obtain ⟨V, hVe⟩ : ∃ V, V = vM σ 64 0 := ⟨_, rfl⟩
  simp only [← hVe] at hq hV
  obtain ⟨v0, v1, v2⟩ := vM_0 σ 64
  rw [← hVe] at v0 v1 v2
  have o2 := hV.2.1
  have hnc : (ncV V : Int) = σ 64 1 := by unfold ncV; omega
  refine am_ofF 1 cpX8 mT_X8_plainCost (plainFor_of_name (by decide +kernel)) (rfl) (Nat.le_of_ble_eq_true rfl) (cpX8_ok) (mT_X8_plainCost_ok hn) (fun K hK => ?_)
  have loop : ∀ (d c : Nat), c + d = ncV V → K 4 [some (.inr (.inl 58)), some (.inl x), some (.inl (pcZ V x c)), some (.inl (c : Int))] [] σ := by
    intro d
    induction d with
    | zero =>
      intro c hc
      refine hK (fun q => q == 4) 60 _ _ _ _ ?_
      simp only [↓wp, ↓stp, ilen, lnth, st1, st2, nolong, nohead, rnth, ↓gfX, ↓pfX, gfV, pfV, cpF, cpP, cndZ, ↓tgo, ↓tsw, ↓lsw, ↓ldI, ↓ldA, ↓ldL, ↓stI, ↓stA, ↓stL, ↓bin, ↓binD, ↓binL, ↓binDL, ↓una, ↓acV, ↓acK, ↓acpy, ↓inv, entL, nones, List.length_cons, List.length_nil, List.take, List.drop, List.reverse_cons, List.reverse_nil, List.nil_append, List.cons_append, Option.toList_some, Option.toList_none, Nat.reduceAdd, Nat.reduceSub, Nat.reduceLT, Nat.reduceEqDiff, Fin.isValue, aTL, aSZ, Int.toNat_natCast, hset_same, hset_o, hset_s, hset_row, ne_eq, Nat.reduceBEq, beq_self_eq_true, Fin.val_zero, Fin.val_one, fin0, fin1, fin2, fin3, Nat.le_refl, Nat.reduceLeDiff, Nat.zero_le, Int.reduceAdd, Int.reduceNeg, Int.reduceLE, Int.reduceLT, Int.reduceToNat, Int.reduceMul, Int.cast_ofNat_Int, Nat.reduceMod, ↓reduceIte, if_true, if_false, and_true, true_and, or_true, true_or, false_or, or_false, and_self, not_true_eq_false, not_false_eq_true, Bool.false_eq_true, reduceCtorEq, false_implies, true_implies, implies_true, and_false, false_and, dX8_plainCost_0, dX8_plainCost_1, dX8_plainCost_2, dX8_plainCost_3, dX8_plainCost_4, dX8_plainCost_5, dX8_plainCost_6, dX8_plainCost_9, dX8_plainCost_10, dX8_plainCost_11, dX8_plainCost_14, dX8_plainCost_15, dX8_plainCost_16, dX8_plainCost_19, dX8_plainCost_20, dX8_plainCost_21, dX8_plainCost_24, dX8_plainCost_25, dX8_plainCost_26, dX8_plainCost_29, dX8_plainCost_32, dX8_plainCost_33, cpX8, mT_X8_plainCost, SHl_58, SHl_59, SHl_60, SHl_61, SHl_62, SHl_63, SHl_64, SHl_65, SHl_66, SHl_67, SHl_68, SHl_69, SHl_70, SHl_71, SHl_72, SHl_73, SHl_74, SHl_75, S_X8_priceOf]
      rw [show ncV V = c by omega] at hq
      exact ⟨⟨by omega, by omega⟩, ⟨by omega, by omega⟩, fun _ => hq, fun q => by omega⟩
    | succ d ih =>
      intro c hc
      have hx := ih (c + 1) (by omega)
      refine hK (fun q => q == 4) 60 _ _ _ _ ?_
      simp only [↓wp, ↓stp, ilen, lnth, st1, st2, nolong, nohead, rnth, ↓gfX, ↓pfX, gfV, pfV, cpF, cpP, cndZ, ↓tgo, ↓tsw, ↓lsw, ↓ldI, ↓ldA, ↓ldL, ↓stI, ↓stA, ↓stL, ↓bin, ↓binD, ↓binL, ↓binDL, ↓una, ↓acV, ↓acK, ↓acpy, ↓inv, entL, nones, List.length_cons, List.length_nil, List.take, List.drop, List.reverse_cons, List.reverse_nil, List.nil_append, List.cons_append, Option.toList_some, Option.toList_none, Nat.reduceAdd, Nat.reduceSub, Nat.reduceLT, Nat.reduceEqDiff, Fin.isValue, aTL, aSZ, Int.toNat_natCast, hset_same, hset_o, hset_s, hset_row, ne_eq, Nat.reduceBEq, beq_self_eq_true, Fin.val_zero, Fin.val_one, fin0, fin1, fin2, fin3, Nat.le_refl, Nat.reduceLeDiff, Nat.zero_le, Int.reduceAdd, Int.reduceNeg, Int.reduceLE, Int.reduceLT, Int.reduceToNat, Int.reduceMul, Int.cast_ofNat_Int, Nat.reduceMod, ↓reduceIte, if_true, if_false, and_true, true_and, or_true, true_or, false_or, or_false, and_self, not_true_eq_false, not_false_eq_true, Bool.false_eq_true, reduceCtorEq, false_implies, true_implies, implies_true, and_false, false_and, dX8_plainCost_0, dX8_plainCost_1, dX8_plainCost_2, dX8_plainCost_3, dX8_plainCost_4, dX8_plainCost_5, dX8_plainCost_6, dX8_plainCost_9, dX8_plainCost_10, dX8_plainCost_11, dX8_plainCost_14, dX8_plainCost_15, dX8_plainCost_16, dX8_plainCost_19, dX8_plainCost_20, dX8_plainCost_21, dX8_plainCost_24, dX8_plainCost_25, dX8_plainCost_26, dX8_plainCost_29, dX8_plainCost_32, dX8_plainCost_33, cpX8, mT_X8_plainCost, SHl_58, SHl_59, SHl_60, SHl_61, SHl_62, SHl_63, SHl_64, SHl_65, SHl_66, SHl_67, SHl_68, SHl_69, SHl_70, SHl_71, SHl_72, SHl_73, SHl_74, SHl_75, S_X8_priceOf, ← hVe]
      exact ⟨⟨by omega, by omega⟩, ⟨by omega, by omega⟩, fun q => by omega, fun _ => ⟨isW_64, hV, by omega, x1, hx⟩⟩
  refine hK (fun q => q == 4) 60 _ _ _ _ ?_
  simp only [↓wp, ↓stp, ilen, lnth, st1, st2, nolong, nohead, rnth, ↓gfX, ↓pfX, gfV, pfV, cpF, cpP, cndZ, ↓tgo, ↓tsw, ↓lsw, ↓ldI, ↓ldA, ↓ldL, ↓stI, ↓stA, ↓stL, ↓bin, ↓binD, ↓binL, ↓binDL, ↓una, ↓acV, ↓acK, ↓acpy, ↓inv, entL, nones, List.length_cons, List.length_nil, List.take, List.drop, List.reverse_cons, List.reverse_nil, List.nil_append, List.cons_append, Option.toList_some, Option.toList_none, Nat.reduceAdd, Nat.reduceSub, Nat.reduceLT, Nat.reduceEqDiff, Fin.isValue, aTL, aSZ, Int.toNat_natCast, hset_same, hset_o, hset_s, hset_row, ne_eq, Nat.reduceBEq, beq_self_eq_true, Fin.val_zero, Fin.val_one, fin0, fin1, fin2, fin3, Nat.le_refl, Nat.reduceLeDiff, Nat.zero_le, Int.reduceAdd, Int.reduceNeg, Int.reduceLE, Int.reduceLT, Int.reduceToNat, Int.reduceMul, Int.cast_ofNat_Int, Nat.reduceMod, ↓reduceIte, if_true, if_false, and_true, true_and, or_true, true_or, false_or, or_false, and_self, not_true_eq_false, not_false_eq_true, Bool.false_eq_true, reduceCtorEq, false_implies, true_implies, implies_true, and_false, false_and, dX8_plainCost_0, dX8_plainCost_1, dX8_plainCost_2, dX8_plainCost_3, dX8_plainCost_4, dX8_plainCost_5, dX8_plainCost_6, dX8_plainCost_9, dX8_plainCost_10, dX8_plainCost_11, dX8_plainCost_14, dX8_plainCost_15, dX8_plainCost_16, dX8_plainCost_19, dX8_plainCost_20, dX8_plainCost_21, dX8_plainCost_24, dX8_plainCost_25, dX8_plainCost_26, dX8_plainCost_29, dX8_plainCost_32, dX8_plainCost_33, cpX8, mT_X8_plainCost, SHl_58, SHl_59, SHl_60, SHl_61, SHl_62, SHl_63, SHl_64, SHl_65, SHl_66, SHl_67, SHl_68, SHl_69, SHl_70, SHl_71, SHl_72, SHl_73, SHl_74, SHl_75, S_X8_priceOf]
  exact loop (ncV V) 0 (by omega)
/-- what all chords cost by one window -/
def plZ (V : HP) (a : Nat) : Int := pcZ V ((a : Int) - 15) (ncV V)
theorem plZ_b {V : HP} (hV : okV V) {a : Nat} (h : a < 24) : 0 ≤ plZ V a ∧ plZ V a ≤ 840 := by
  have h1 := pcZ_b (x := (a : Int) - 15) hV (by omega) (by omega) (ncV V) (Nat.le_refl _)
  have h2 := hV.2.1
  unfold plZ
  unfold ncV at h1 ⊢
  omega
def S_X8_plainWindow : MSpec := fun a σ Q => match a with
  | [.inr (.inl 58)] => okV (vM σ 64 0) ∧ Q (some (.inl ((fstN (plZ (vM σ 64 0)) 24 : Int) - 15))) σ
  | _ => False
theorem rc_X8_plainWindow : ∀ a σ Q, S_X8_plainWindow a σ Q → ∃ (p : Nat) (r : List AV), a = .inr (.inl p) :: r ∧ p < 76 ∧ (SH p).1 = 4 ∧ (SH p).2.1 = 7 := by
  intro a σ Q h
  unfold S_X8_plainWindow at h
  split at h
  · exact ⟨58, _, rfl, by decide, rfl, rfl⟩
  · exact h.elim
def mT_X8_plainWindow (i : Nat) : Option (Nat × Bool × MSpec) := match i with
  | 234 => some (2, true, S_X8_plainCost)
  | _ => none
theorem mT_X8_plainWindow_ok {l : Launch} {n : Nat} (hn : 6 ≤ n) : ∀ i e, mT_X8_plainWindow i = some e → mV l (rmOf n) RX8 i e := by
  intro i e h
  unfold mT_X8_plainWindow at h
  split at h
  · cases h; exact mvI (lv := 5) (ci := 7) (T := TX8) (N := 28) mw_X8_plainCost rfl (by omega) (by decide) (by decide +kernel) (gtm 1056 (by decide +kernel) (by decide +kernel)) rc_X8_plainCost ok_X8_plainCost
  · cases h
set_option maxRecDepth 100000 in
set_option maxHeartbeats 16000000 in
theorem ok_X8_plainWindow : ∀ l n, 6 ≤ n → ∀ a σ Q, S_X8_plainWindow a σ Q → AM l n yX8_plainWindow cX8_plainWindow 3 (some .int) a σ Q := by
  intro l n hn a σ Q hS
  unfold S_X8_plainWindow at hS
  split at hS
  rotate_left
  · exact hS.elim
  obtain ⟨hV, hq⟩ := hS
  obtain ⟨V, hVe⟩ : ∃ V, V = vM σ 64 0 := ⟨_, rfl⟩
  simp only [← hVe] at hq hV
  have hb := fun v (hv : v < 24) => plZ_b hV hv
  refine am_ofF 1 cpX8 mT_X8_plainWindow (plainFor_of_name (by decide +kernel)) (rfl) (Nat.le_of_ble_eq_true rfl) (cpX8_ok) (mT_X8_plainWindow_ok hn) (fun K hK => ?_)
  have loop : ∀ (d t : Nat), t + d = 24 → K 6 [some (.inr (.inl 58)), some (.inl ((fstN (plZ V) t : Int) - 15)), some (.inl ((t : Int) - 15))] [] σ := by
    intro d
    induction d with
    | zero =>
      intro t ht
      refine hK (fun q => q == 6) 60 _ _ _ _ ?_
      simp only [↓wp, ↓stp, ilen, lnth, st1, st2, nolong, nohead, rnth, ↓gfX, ↓pfX, gfV, pfV, cpF, cpP, cndZ, ↓tgo, ↓tsw, ↓lsw, ↓ldI, ↓ldA, ↓ldL, ↓stI, ↓stA, ↓stL, ↓bin, ↓binD, ↓binL, ↓binDL, ↓una, ↓acV, ↓acK, ↓acpy, ↓inv, entL, nones, List.length_cons, List.length_nil, List.take, List.drop, List.reverse_cons, List.reverse_nil, List.nil_append, List.cons_append, Option.toList_some, Option.toList_none, Nat.reduceAdd, Nat.reduceSub, Nat.reduceLT, Nat.reduceEqDiff, Fin.isValue, aTL, aSZ, Int.toNat_natCast, hset_same, hset_o, hset_s, hset_row, ne_eq, Nat.reduceBEq, beq_self_eq_true, Fin.val_zero, Fin.val_one, fin0, fin1, fin2, fin3, Nat.le_refl, Nat.reduceLeDiff, Nat.zero_le, Int.reduceAdd, Int.reduceNeg, Int.reduceLE, Int.reduceLT, Int.reduceToNat, Int.reduceMul, Int.cast_ofNat_Int, Nat.reduceMod, ↓reduceIte, if_true, if_false, and_true, true_and, or_true, true_or, false_or, or_false, and_self, not_true_eq_false, not_false_eq_true, Bool.false_eq_true, reduceCtorEq, false_implies, true_implies, implies_true, and_false, false_and, dX8_plainWindow_0, dX8_plainWindow_2, dX8_plainWindow_3, dX8_plainWindow_5, dX8_plainWindow_6, dX8_plainWindow_7, dX8_plainWindow_9, dX8_plainWindow_12, dX8_plainWindow_13, dX8_plainWindow_14, dX8_plainWindow_17, dX8_plainWindow_18, dX8_plainWindow_19, dX8_plainWindow_22, dX8_plainWindow_25, dX8_plainWindow_26, dX8_plainWindow_29, dX8_plainWindow_30, dX8_plainWindow_31, dX8_plainWindow_34, dX8_plainWindow_37, dX8_plainWindow_38, cpX8, mT_X8_plainWindow, SHl_58, SHl_59, SHl_60, SHl_61, SHl_62, SHl_63, SHl_64, SHl_65, SHl_66, SHl_67, SHl_68, SHl_69, SHl_70, SHl_71, SHl_72, SHl_73, SHl_74, SHl_75, S_X8_plainCost]
      rw [show 24 = t by omega] at hq
      exact ⟨⟨by omega, by omega⟩, ⟨by omega, by omega⟩, fun _ => hq, fun q => by omega⟩
    | succ d ih =>
      intro t ht
      have hx := ih (t + 1) (by omega)
      rw [show ((t + 1 : Nat) : Int) - 15 = (t : Int) - 15 + 1 by omega] at hx
      have f1 : fstN (plZ V) t < 24 ∧ (t = 0 ∨ plZ V (fstN (plZ V) t) = lstN (plZ V) t) := by
        rcases Nat.eq_zero_or_pos t with h | h
        · subst h
          exact ⟨by simp [fstN], Or.inl rfl⟩
        · have fo := fstN_ok (plZ V) t (fun b hbb => by have := hb b (by omega); omega) h
          exact ⟨by omega, Or.inr fo.2.1⟩
      have b1 := hb t (by omega)
      have b2 := hb _ f1.1
      have hA : pcZ V ((t : Int) - 15) (ncV V) = plZ V t := rfl
      have hB : pcZ V ((fstN (plZ V) t : Int) - 15) (ncV V) = plZ V (fstN (plZ V) t) := rfl
      refine hK (fun q => q == 6) 60 _ _ _ _ ?_
      simp only [↓wp, ↓stp, ilen, lnth, st1, st2, nolong, nohead, rnth, ↓gfX, ↓pfX, gfV, pfV, cpF, cpP, cndZ, ↓tgo, ↓tsw, ↓lsw, ↓ldI, ↓ldA, ↓ldL, ↓stI, ↓stA, ↓stL, ↓bin, ↓binD, ↓binL, ↓binDL, ↓una, ↓acV, ↓acK, ↓acpy, ↓inv, entL, nones, List.length_cons, List.length_nil, List.take, List.drop, List.reverse_cons, List.reverse_nil, List.nil_append, List.cons_append, Option.toList_some, Option.toList_none, Nat.reduceAdd, Nat.reduceSub, Nat.reduceLT, Nat.reduceEqDiff, Fin.isValue, aTL, aSZ, Int.toNat_natCast, hset_same, hset_o, hset_s, hset_row, ne_eq, Nat.reduceBEq, beq_self_eq_true, Fin.val_zero, Fin.val_one, fin0, fin1, fin2, fin3, Nat.le_refl, Nat.reduceLeDiff, Nat.zero_le, Int.reduceAdd, Int.reduceNeg, Int.reduceLE, Int.reduceLT, Int.reduceToNat, Int.reduceMul, Int.cast_ofNat_Int, Nat.reduceMod, ↓reduceIte, if_true, if_false, and_true, true_and, or_true, true_or, false_or, or_false, and_self, not_true_eq_false, not_false_eq_true, Bool.false_eq_true, reduceCtorEq, false_implies, true_implies, implies_true, and_false, false_and, dX8_plainWindow_0, dX8_plainWindow_2, dX8_plainWindow_3, dX8_plainWindow_5, dX8_plainWindow_6, dX8_plainWindow_7, dX8_plainWindow_9, dX8_plainWindow_12, dX8_plainWindow_13, dX8_plainWindow_14, dX8_plainWindow_17, dX8_plainWindow_18, dX8_plainWindow_19, dX8_plainWindow_22, dX8_plainWindow_25, dX8_plainWindow_26, dX8_plainWindow_29, dX8_plainWindow_30, dX8_plainWindow_31, dX8_plainWindow_34, dX8_plainWindow_37, dX8_plainWindow_38, cpX8, mT_X8_plainWindow, SHl_58, SHl_59, SHl_60, SHl_61, SHl_62, SHl_63, SHl_64, SHl_65, SHl_66, SHl_67, SHl_68, SHl_69, SHl_70, SHl_71, SHl_72, SHl_73, SHl_74, SHl_75, S_X8_plainCost, ← hVe, hA, hB]
      rw [fstN_s] at hx
      by_cases e : plZ V t < plZ V (fstN (plZ V) t)
      · rw [if_pos (by
          rcases f1.2 with h | h
          · subst h
            exact absurd e (Int.lt_irrefl _)
          · omega)] at hx
        (repeat' (first | exact hV | apply And.intro | intro _)) <;> first | omega | exact hx
      · by_cases e0 : t = 0
        · have ez : fstN (plZ V) t = 0 := by rw [e0]; rfl
          have hx2 : K 6 [some (.inr (.inl 58)), some (.inl ((fstN (plZ V) t : Int) - 15)), some (.inl ((t : Int) - 15 + 1))] [] σ := by
            rw [show (if plZ V t < lstN (plZ V) t then t else fstN (plZ V) t) = fstN (plZ V) t by split <;> omega] at hx
            exact hx
          (repeat' (first | exact hV | apply And.intro | intro _)) <;> first | omega | exact hx2
        · rw [if_neg (by
            rcases f1.2 with h | h
            · exact absurd h e0
            · omega)] at hx
          (repeat' (first | exact hV | apply And.intro | intro _)) <;> first | omega | exact hx
  refine hK (fun q => q == 6) 60 _ _ _ _ ?_
  simp only [↓wp, ↓stp, ilen, lnth, st1, st2, nolong, nohead, rnth, ↓gfX, ↓pfX, gfV, pfV, cpF, cpP, cndZ, ↓tgo, ↓tsw, ↓lsw, ↓ldI, ↓ldA, ↓ldL, ↓stI, ↓stA, ↓stL, ↓bin, ↓binD, ↓binL, ↓binDL, ↓una, ↓acV, ↓acK, ↓acpy, ↓inv, entL, nones, List.length_cons, List.length_nil, List.take, List.drop, List.reverse_cons, List.reverse_nil, List.nil_append, List.cons_append, Option.toList_some, Option.toList_none, Nat.reduceAdd, Nat.reduceSub, Nat.reduceLT, Nat.reduceEqDiff, Fin.isValue, aTL, aSZ, Int.toNat_natCast, hset_same, hset_o, hset_s, hset_row, ne_eq, Nat.reduceBEq, beq_self_eq_true, Fin.val_zero, Fin.val_one, fin0, fin1, fin2, fin3, Nat.le_refl, Nat.reduceLeDiff, Nat.zero_le, Int.reduceAdd, Int.reduceNeg, Int.reduceLE, Int.reduceLT, Int.reduceToNat, Int.reduceMul, Int.cast_ofNat_Int, Nat.reduceMod, ↓reduceIte, if_true, if_false, and_true, true_and, or_true, true_or, false_or, or_false, and_self, not_true_eq_false, not_false_eq_true, Bool.false_eq_true, reduceCtorEq, false_implies, true_implies, implies_true, and_false, false_and, dX8_plainWindow_0, dX8_plainWindow_2, dX8_plainWindow_3, dX8_plainWindow_5, dX8_plainWindow_6, dX8_plainWindow_7, dX8_plainWindow_9, dX8_plainWindow_12, dX8_plainWindow_13, dX8_plainWindow_14, dX8_plainWindow_17, dX8_plainWindow_18, dX8_plainWindow_19, dX8_plainWindow_22, dX8_plainWindow_25, dX8_plainWindow_26, dX8_plainWindow_29, dX8_plainWindow_30, dX8_plainWindow_31, dX8_plainWindow_34, dX8_plainWindow_37, dX8_plainWindow_38, cpX8, mT_X8_plainWindow, SHl_58, SHl_59, SHl_60, SHl_61, SHl_62, SHl_63, SHl_64, SHl_65, SHl_66, SHl_67, SHl_68, SHl_69, SHl_70, SHl_71, SHl_72, SHl_73, SHl_74, SHl_75, S_X8_plainCost]
  exact loop 24 0 (by omega)
def whV (V : HP) (w : Int) : Int := if w = 0 then bestV V else if w = 1 then capM (waysV V) else if w = 2 then signsV V else if w = 3 then (fstN (hcV V) 15 : Int) else if w = 4 then hcV V (fstN (hcV V) 15) else if w = 5 then plZ V (fstN (plZ V) 24) else if w = 6 then (fstN (plZ V) 24 : Int) - 15 else -1000001
def S_X8_whole : MSpec := fun a σ Q => match a with
  | [.inr (.inl 58), .inl w] => R32 w ∧ okV (vM σ 64 0) ∧ (if σ 64 1 = 0 then Q (some (.inl (-1000002))) σ else ∀ τ, mS σ τ → Q (some (.inl (whV (vM σ 64 0) w))) τ)
  | _ => False
theorem rc_X8_whole : ∀ a σ Q, S_X8_whole a σ Q → ∃ (p : Nat) (r : List AV), a = .inr (.inl p) :: r ∧ p < 76 ∧ (SH p).1 = 4 ∧ (SH p).2.1 = 7 := by
  intro a σ Q h
  unfold S_X8_whole at h
  split at h
  · exact ⟨58, _, rfl, by decide, rfl, rfl⟩
  · exact h.elim
def mT_X8_whole (i : Nat) : Option (Nat × Bool × MSpec) := match i with
  | 202 => some (2, true, S_X8_finds)
  | 215 => some (1, true, S_X8_isPiece)
  | 224 => some (2, true, S_X8_prints)
  | 231 => some (2, true, S_X8_costBy)
  | 234 => some (2, true, S_X8_plainCost)
  | 237 => some (1, true, S_X8_allWays)
  | 241 => some (1, true, S_X8_bestHeads)
  | 244 => some (1, true, S_X8_plainWindow)
  | _ => none
theorem mT_X8_whole_ok {l : Launch} {n : Nat} (hn : 9 ≤ n) : ∀ i e, mT_X8_whole i = some e → mV l (rmOf n) RX8 i e := by
  intro i e h
  unfold mT_X8_whole at h
  split at h
  · cases h; exact mvI (lv := 6) (ci := 7) (T := TX8) (N := 28) mw_X8_finds rfl (by omega) (by decide) (by decide +kernel) (gtm 1001 (by decide +kernel) (by decide +kernel)) rc_X8_finds ok_X8_finds
  · cases h; exact mvI (lv := 0) (ci := 7) (T := TX8) (N := 28) mw_X8_isPiece rfl (by omega) (by decide) (by decide +kernel) (gtm 944 (by decide +kernel) (by decide +kernel)) rc_X8_isPiece ok_X8_isPiece
  · cases h; exact mvI (lv := 7) (ci := 7) (T := TX8) (N := 28) mw_X8_prints rfl (by omega) (by decide) (by decide +kernel) (gtm 997 (by decide +kernel) (by decide +kernel)) rc_X8_prints ok_X8_prints
  · cases h; exact mvI (lv := 7) (ci := 7) (T := TX8) (N := 28) mw_X8_costBy rfl (by omega) (by decide) (by decide +kernel) (gtm 1048 (by decide +kernel) (by decide +kernel)) rc_X8_costBy ok_X8_costBy
  · cases h; exact mvI (lv := 5) (ci := 7) (T := TX8) (N := 28) mw_X8_plainCost rfl (by omega) (by decide) (by decide +kernel) (gtm 1056 (by decide +kernel) (by decide +kernel)) rc_X8_plainCost ok_X8_plainCost
  · cases h; exact mvI (lv := 7) (ci := 7) (T := TX8) (N := 28) mw_X8_allWays rfl (by omega) (by decide) (by decide +kernel) (gtm 1040 (by decide +kernel) (by decide +kernel)) rc_X8_allWays ok_X8_allWays
  · cases h; exact mvI (lv := 8) (ci := 7) (T := TX8) (N := 28) mw_X8_bestHeads rfl (by omega) (by decide) (by decide +kernel) (gtm 1044 (by decide +kernel) (by decide +kernel)) rc_X8_bestHeads ok_X8_bestHeads
  · cases h; exact mvI (lv := 6) (ci := 7) (T := TX8) (N := 28) mw_X8_plainWindow rfl (by omega) (by decide) (by decide +kernel) (gtm 1052 (by decide +kernel) (by decide +kernel)) rc_X8_plainWindow ok_X8_plainWindow
  · cases h
set_option maxRecDepth 100000 in
set_option maxHeartbeats 4000000 in
theorem ok_X8_whole : ∀ l n, 9 ≤ n → ∀ a σ Q, S_X8_whole a σ Q → AM l n yX8_whole cX8_whole 2 (some .int) a σ Q := by
  intro l n hn a σ Q hS
  unfold S_X8_whole at hS
  split at hS
  rotate_left
  · exact hS.elim
  rename_i w
  obtain ⟨⟨w1, w2⟩, hV, hq⟩ := hS
  refine am_ofF 1 cpX8 mT_X8_whole (plainFor_of_name (by decide +kernel)) (rfl) (Nat.le_of_ble_eq_true rfl) (cpX8_ok) (mT_X8_whole_ok hn) (fun K hK => ?_)
  refine hK (fun _ => false) 200 _ _ _ _ ?_
  simp only [↓wp, ↓stp, ilen, lnth, st1, st2, nolong, nohead, rnth, ↓gfX, ↓pfX, gfV, pfV, cpF, cpP, cndZ, ↓tgo, ↓tsw, ↓lsw, ↓ldI, ↓ldA, ↓ldL, ↓stI, ↓stA, ↓stL, ↓bin, ↓binD, ↓binL, ↓binDL, ↓una, ↓acV, ↓acK, ↓acpy, ↓inv, entL, nones, List.length_cons, List.length_nil, List.take, List.drop, List.reverse_cons, List.reverse_nil, List.nil_append, List.cons_append, Option.toList_some, Option.toList_none, Nat.reduceAdd, Nat.reduceSub, Nat.reduceLT, Nat.reduceEqDiff, Fin.isValue, aTL, aSZ, Int.toNat_natCast, hset_same, hset_o, hset_s, hset_row, ne_eq, Nat.reduceBEq, beq_self_eq_true, Fin.val_zero, Fin.val_one, fin0, fin1, fin2, fin3, Nat.le_refl, Nat.reduceLeDiff, Nat.zero_le, Int.reduceAdd, Int.reduceNeg, Int.reduceLE, Int.reduceLT, Int.reduceToNat, Int.reduceMul, Int.cast_ofNat_Int, Nat.reduceMod, ↓reduceIte, if_true, if_false, and_true, true_and, or_true, true_or, false_or, or_false, and_self, not_true_eq_false, not_false_eq_true, Bool.false_eq_true, reduceCtorEq, false_implies, true_implies, implies_true, and_false, false_and, dX8_whole_0, dX8_whole_1, dX8_whole_4, dX8_whole_7, dX8_whole_9, dX8_whole_10, dX8_whole_11, dX8_whole_52, dX8_whole_53, dX8_whole_54, dX8_whole_57, dX8_whole_60, dX8_whole_61, dX8_whole_64, dX8_whole_65, dX8_whole_66, dX8_whole_69, dX8_whole_70, dX8_whole_71, dX8_whole_72, dX8_whole_75, dX8_whole_78, dX8_whole_79, dX8_whole_80, dX8_whole_83, dX8_whole_84, dX8_whole_85, dX8_whole_86, dX8_whole_89, dX8_whole_92, dX8_whole_93, dX8_whole_94, dX8_whole_95, dX8_whole_98, dX8_whole_101, dX8_whole_102, dX8_whole_103, dX8_whole_106, dX8_whole_107, dX8_whole_109, cpX8, mT_X8_whole, SHl_58, SHl_59, SHl_60, SHl_61, SHl_62, SHl_63, SHl_64, SHl_65, SHl_66, SHl_67, SHl_68, SHl_69, SHl_70, SHl_71, SHl_72, SHl_73, SHl_74, SHl_75, S_X8_allWays, S_X8_bestHeads, S_X8_costBy, S_X8_finds, S_X8_isPiece, S_X8_plainCost, S_X8_plainWindow, S_X8_prints]
  obtain ⟨V, hVe⟩ : ∃ V, V = vM σ 64 0 := ⟨_, rfl⟩
  simp only [← hVe] at hq hV ⊢
  obtain ⟨v0, v1, v2⟩ := vM_0 σ 64
  rw [← hVe] at v0 v1 v2
  have o2 := hV.2.1
  by_cases h1 : σ 64 1 = 0
  · rw [if_pos h1] at hq
    (repeat' (first | exact hq | apply And.intro | intro _)) <;> first | omega | (exfalso; omega)
  · rw [if_neg h1] at hq
    have hnc : 0 < ncV V := by unfold ncV; omega
    have n1 : 1 ≤ σ 64 1 := by omega
    have q0 : w = 0 → ∀ τ, fdOk σ τ V → Q (some (.inl (τ 58 23))) τ := fun h τ hτ => by
      have := hq τ (mS_fd hτ)
      unfold whV at this
      rw [if_pos h] at this
      rw [hτ.2.2.1]
      exact this
    have q1 : w = 1 → ∀ τ, fdOk σ τ V → Q (some (.inl (capM (waysV V)))) τ := fun h τ hτ => by
      have := hq τ (mS_fd hτ)
      unfold whV at this
      rw [if_neg (by omega), if_pos h] at this
      exact this
    have q2 : w = 2 → ∀ τ, prOk σ τ V → Q (some (.inl (signsV V))) τ := fun h τ hτ => by
      have := hq τ (mS_pr hτ)
      unfold whV at this
      rw [if_neg (by omega), if_neg (by omega), if_pos h] at this
      exact this
    have q3 : w = 3 → ∀ τ, mS σ τ → Q (some (.inl (fstN (hcV V) 15 : Nat))) τ := fun h τ hτ => by
      have := hq τ hτ
      unfold whV at this
      rw [if_neg (by omega), if_neg (by omega), if_neg (by omega), if_pos h] at this
      exact this
    have fh := fstN_lt (hcV V) (n := 15) (fun b hbb => by have := hcV_b hV hnc hbb; omega) (by decide)
    have fp := fstN_lt (plZ V) (n := 24) (fun b hbb => by have := plZ_b hV hbb; omega) (by decide)
    have q4 : w = 4 → ∀ τ, mS σ τ → (okV (vM τ 64 0) ∧ 1 ≤ τ 64 1 ∧ (0 ≤ ((fstN (hcV V) 15 : Nat) : Int) ∧ ((fstN (hcV V) 15 : Nat) : Int) < 15) ∧ ∀ ρ, mS τ ρ → Q (some (.inl (hcV (vM τ 64 0) (((fstN (hcV V) 15 : Nat) : Int)).toNat))) ρ) := fun h τ hτ => by
      rw [vM_only (mS_64 hτ), ← hVe, mS_64 hτ]
      refine ⟨hV, n1, by omega, fun ρ hρ => ?_⟩
      have := hq ρ (mS_tr hτ hρ)
      unfold whV at this
      rw [if_neg (by omega), if_neg (by omega), if_neg (by omega), if_neg (by omega), if_pos h] at this
      exact this
    have q5 : w = 5 → Q (some (.inl (pcZ V ((fstN (plZ V) 24 : Int) - 15) (ncV V)))) σ := fun h => by
      have := hq σ (mS_rf σ)
      unfold whV at this
      rw [if_neg (by omega), if_neg (by omega), if_neg (by omega), if_neg (by omega), if_neg (by omega), if_pos h] at this
      exact this
    have q6 : w = 6 → Q (some (.inl ((fstN (plZ V) 24 : Int) - 15))) σ := fun h => by
      have := hq σ (mS_rf σ)
      unfold whV at this
      rw [if_neg (by omega), if_neg (by omega), if_neg (by omega), if_neg (by omega), if_neg (by omega), if_neg (by omega), if_pos h] at this
      exact this
    have q7 : (w < 0 ∨ 6 < w) → Q (some (.inl (-1000001))) σ := fun h => by
      have := hq σ (mS_rf σ)
      unfold whV at this
      rw [if_neg (by omega), if_neg (by omega), if_neg (by omega), if_neg (by omega), if_neg (by omega), if_neg (by omega), if_neg (by omega)] at this
      exact this
    (repeat' (first | exact isW_64 | exact hV | exact q0 (by omega) _ ‹_› | exact q1 (by omega) _ ‹_› | exact q2 (by omega) _ ‹_› | exact q3 (by omega) _ ‹_› | exact q4 (by omega) _ ‹_› | exact q5 (by omega) | exact q6 (by omega) | exact q7 (by omega) | apply And.intro | intro _)) <;> omega
/-- what a row of windows costs; none: it may not be so -/
def czZ (V : HP) (f : Nat → Int) : Nat → Nat → Int → Int
  | 0, _, s => s
  | d + 1, k, s => if ¬ (-15 ≤ f k ∧ f k ≤ 8) then -1000000 else if 0 < k ∧ 4 ≤ V 1 k ∧ f (k - 1) ≠ f k then -1000000 else czZ V f d (k + 1) (s + ((if k = 0 then 0 else stepZ (V 3 k) (f (k - 1)) (f k)) + pV V k (f k)))
def S_X8_cost : MSpec := fun a σ Q => match a with
  | [.inr (.inl 58), .inl r, .inl i] => R32 r ∧ R32 i ∧ okV (vM σ 64 0) ∧ (∀ r, r < 8 → R32 (σ 59 r) ∧ (0 ≤ σ 60 r ∧ σ 60 r ≤ 40)) ∧ (∀ j, R32 (σ 61 j)) ∧ (if σ 64 1 = 0 then Q (some (.inl (-1000002))) σ else if ¬ (0 ≤ r ∧ r ≤ 7) then Q (some (.inl (-1000001))) σ else if σ 59 r.toNat = -1000000 then Q (some (.inl (-1000011))) (hset σ 58 4 1) else if ¬ (0 ≤ i ∧ σ 64 1 ≤ σ 60 r.toNat - i) then Q (some (.inl (-1000012))) (hset σ 58 4 2) else Q (some (.inl (czZ (vM σ 64 0) (fun k => σ 61 ((40 * r + i).toNat + k)) (ncV (vM σ 64 0)) 0 0))) (hset σ 58 4 0))
  | _ => False
theorem rc_X8_cost : ∀ a σ Q, S_X8_cost a σ Q → ∃ (p : Nat) (r : List AV), a = .inr (.inl p) :: r ∧ p < 76 ∧ (SH p).1 = 4 ∧ (SH p).2.1 = 7 := by
  intro a σ Q h
  unfold S_X8_cost at h
  split at h
  · exact ⟨58, _, rfl, by decide, rfl, rfl⟩
  · exact h.elim
def mT_X8_cost (i : Nat) : Option (Nat × Bool × MSpec) := match i with
  | 72 => some (1, false, S_X8_isRow)
  | 77 => some (2, true, S_X8_found)
  | 81 => some (2, true, S_X8_well)
  | 84 => some (2, true, S_X8_isMissing)
  | 91 => some (4, true, S_X8_isPart)
  | 188 => some (4, false, S_X8_moveTo)
  | 192 => some (3, false, S_X8_priceOf)
  | 215 => some (1, true, S_X8_isPiece)
  | 218 => some (1, false, S_X8_isWindow)
  | _ => none
theorem mT_X8_cost_ok {l : Launch} {n : Nat} (hn : 5 ≤ n) : ∀ i e, mT_X8_cost i = some e → mV l (rmOf n) RX8 i e := by
  intro i e h
  unfold mT_X8_cost at h
  split at h
  · cases h; exact mvS (lv := 1) mw_X8_isRow (by omega) (by decide) (by decide +kernel) (Or.inl (gtm 828 (by decide +kernel) (by decide +kernel))) ok_X8_isRow
  · cases h; exact mvI (lv := 0) (ci := 7) (T := TX8) (N := 28) mw_X8_found rfl (by omega) (by decide) (by decide +kernel) (gtm 835 (by decide +kernel) (by decide +kernel)) rc_X8_found ok_X8_found
  · cases h; exact mvI (lv := 0) (ci := 7) (T := TX8) (N := 28) mw_X8_well rfl (by omega) (by decide) (by decide +kernel) (gtm 840 (by decide +kernel) (by decide +kernel)) rc_X8_well ok_X8_well
  · cases h; exact mvI (lv := 0) (ci := 7) (T := TX8) (N := 28) mw_X8_isMissing rfl (by omega) (by decide) (by decide +kernel) (gtm 848 (by decide +kernel) (by decide +kernel)) rc_X8_isMissing ok_X8_isMissing
  · cases h; exact mvI (lv := 0) (ci := 7) (T := TX8) (N := 28) mw_X8_isPart rfl (by omega) (by decide) (by decide +kernel) (gtm 859 (by decide +kernel) (by decide +kernel)) rc_X8_isPart ok_X8_isPart
  · cases h; exact mvS (lv := 1) mw_X8_moveTo (by omega) (by decide) (by decide +kernel) (Or.inl (gtm 1009 (by decide +kernel) (by decide +kernel))) ok_X8_moveTo
  · cases h; exact mvS (lv := 4) mw_X8_priceOf (by omega) (by decide) (by decide +kernel) (Or.inl (gtm 1019 (by decide +kernel) (by decide +kernel))) ok_X8_priceOf
  · cases h; exact mvI (lv := 0) (ci := 7) (T := TX8) (N := 28) mw_X8_isPiece rfl (by omega) (by decide) (by decide +kernel) (gtm 944 (by decide +kernel) (by decide +kernel)) rc_X8_isPiece ok_X8_isPiece
  · cases h; exact mvS (lv := 1) mw_X8_isWindow (by omega) (by decide) (by decide +kernel) (Or.inl (gtm 976 (by decide +kernel) (by decide +kernel))) ok_X8_isWindow
  · cases h
set_option maxRecDepth 100000 in
set_option maxHeartbeats 16000000 in
theorem ok_X8_cost : ∀ l n, 5 ≤ n → ∀ a σ Q, S_X8_cost a σ Q → AM l n yX8_cost cX8_cost 8 (some .int) a σ Q := by
  intro l n hn a σ Q hS
  unfold S_X8_cost at hS
  split at hS
  rotate_left
  · exact hS.elim
  rename_i r i
  obtain ⟨⟨r1, r2⟩, ⟨i1, i2⟩, hV, hI, hJ, hq⟩ := hS
  obtain ⟨V, hVe⟩ : ∃ V, V = vM σ 64 0 := ⟨_, rfl⟩
  simp only [← hVe] at hq hV
  obtain ⟨v0, v1, v2⟩ := vM_0 σ 64
  rw [← hVe] at v0 v1 v2
  obtain ⟨o1, o2, o3, -, oc, on⟩ := id hV
  have hnc : (ncV V : Int) = σ 64 1 := by unfold ncV; omega
  refine am_ofF 1 cpX8 mT_X8_cost (plainFor_of_name (by decide +kernel)) (rfl) (Nat.le_of_ble_eq_true rfl) (cpX8_ok) (mT_X8_cost_ok hn) (fun K hK => ?_)
  have main : ¬ σ 64 1 = 0 → (0 ≤ r ∧ r ≤ 7) → ¬ σ 59 r.toNat = -1000000 → (0 ≤ i ∧ σ 64 1 ≤ σ 60 r.toNat - i) → ∀ u6 u7 : Option AV, K 68 [some (.inr (.inl 58)), some (.inl r), some (.inl i), some (.inl (40 * r + i)), some (.inl 0), some (.inl 0), u6, u7] [] σ := by
    intro b1 b2 b3 b4
    rw [if_neg b1, if_neg (by omega), if_neg b3, if_neg (by omega)] at hq
    have hr := (hI r.toNat (by omega)).2
    obtain ⟨B, hB⟩ : ∃ B : Nat, 40 * r + i = (B : Int) := ⟨(40 * r + i).toNat, by omega⟩
    rw [hB, Int.toNat_natCast] at hq
    rw [hB]
    generalize hf : (fun k => σ 61 (B + k)) = f at hq
    have hfk : ∀ k : Nat, σ 61 ((B : Int) + (k : Int)).toNat = f k := fun k => by
      rw [← hf]
      show _ = σ 61 (B + k)
      congr 1
    have hfk1 : ∀ k : Nat, 0 < k → σ 61 ((B : Int) + (k : Int) - 1).toNat = f (k - 1) := fun k hk => by
      rw [← hf]
      show _ = σ 61 (B + (k - 1))
      congr 1
      omega
    have hfR : ∀ k, R32 (f k) := fun k => by rw [← hf]; exact hJ _
    have loop : ∀ (d k : Nat) (s : Int), k + d = ncV V → (0 < k → -15 ≤ f (k - 1) ∧ f (k - 1) ≤ 8) → Q (some (.inl (czZ V f d k s))) (hset σ 58 4 0) → ∀ u6 u7 : Option AV, K 68 [some (.inr (.inl 58)), some (.inl r), some (.inl i), some (.inl (B : Int)), some (.inl s), some (.inl (k : Int)), u6, u7] [] σ := by
      intro d
      induction d with
      | zero =>
        intro k s hk hp hz u6 u7
        refine hK (fun q => q == 68) 100 _ _ _ _ ?_
        simp only [↓wp, ↓stp, ilen, lnth, st1, st2, nolong, nohead, rnth, ↓gfX, ↓pfX, gfV, pfV, cpF, cpP, cndZ, ↓tgo, ↓tsw, ↓lsw, ↓ldI, ↓ldA, ↓ldL, ↓stI, ↓stA, ↓stL, ↓bin, ↓binD, ↓binL, ↓binDL, ↓una, ↓acV, ↓acK, ↓acpy, ↓inv, entL, nones, List.length_cons, List.length_nil, List.take, List.drop, List.reverse_cons, List.reverse_nil, List.nil_append, List.cons_append, Option.toList_some, Option.toList_none, Nat.reduceAdd, Nat.reduceSub, Nat.reduceLT, Nat.reduceEqDiff, Fin.isValue, aTL, aSZ, Int.toNat_natCast, hset_same, hset_o, hset_s, hset_row, ne_eq, Nat.reduceBEq, beq_self_eq_true, Fin.val_zero, Fin.val_one, fin0, fin1, fin2, fin3, Nat.le_refl, Nat.reduceLeDiff, Nat.zero_le, Int.reduceAdd, Int.reduceNeg, Int.reduceLE, Int.reduceLT, Int.reduceToNat, Int.reduceMul, Int.cast_ofNat_Int, Nat.reduceMod, ↓reduceIte, if_true, if_false, and_true, true_and, or_true, true_or, false_or, or_false, and_self, not_true_eq_false, not_false_eq_true, Bool.false_eq_true, reduceCtorEq, false_implies, true_implies, implies_true, and_false, false_and, dX8_cost_0, dX8_cost_1, dX8_cost_4, dX8_cost_7, dX8_cost_9, dX8_cost_10, dX8_cost_11, dX8_cost_14, dX8_cost_17, dX8_cost_19, dX8_cost_20, dX8_cost_21, dX8_cost_22, dX8_cost_25, dX8_cost_28, dX8_cost_29, dX8_cost_30, dX8_cost_33, dX8_cost_34, dX8_cost_35, dX8_cost_36, dX8_cost_37, dX8_cost_38, dX8_cost_41, dX8_cost_42, dX8_cost_43, dX8_cost_46, dX8_cost_49, dX8_cost_50, dX8_cost_51, dX8_cost_54, dX8_cost_55, dX8_cost_57, dX8_cost_58, dX8_cost_59, dX8_cost_60, dX8_cost_61, dX8_cost_62, dX8_cost_63, dX8_cost_65, dX8_cost_66, dX8_cost_68, dX8_cost_70, dX8_cost_71, dX8_cost_74, dX8_cost_75, dX8_cost_76, dX8_cost_79, dX8_cost_80, dX8_cost_83, dX8_cost_84, dX8_cost_86, dX8_cost_87, dX8_cost_88, dX8_cost_90, dX8_cost_92, dX8_cost_95, dX8_cost_97, dX8_cost_100, dX8_cost_103, dX8_cost_104, dX8_cost_107, dX8_cost_108, dX8_cost_111, dX8_cost_113, dX8_cost_114, dX8_cost_117, dX8_cost_118, dX8_cost_120, dX8_cost_121, dX8_cost_122, dX8_cost_123, dX8_cost_124, dX8_cost_126, dX8_cost_129, dX8_cost_131, dX8_cost_133, dX8_cost_136, dX8_cost_139, dX8_cost_141, dX8_cost_143, dX8_cost_146, dX8_cost_147, dX8_cost_149, dX8_cost_152, dX8_cost_153, dX8_cost_155, dX8_cost_157, dX8_cost_158, dX8_cost_161, dX8_cost_163, dX8_cost_165, dX8_cost_168, dX8_cost_169, dX8_cost_170, dX8_cost_172, dX8_cost_175, dX8_cost_178, dX8_cost_179, dX8_cost_181, dX8_cost_184, cpX8, mT_X8_cost, SHl_58, SHl_59, SHl_60, SHl_61, SHl_62, SHl_63, SHl_64, SHl_65, SHl_66, SHl_67, SHl_68, SHl_69, SHl_70, SHl_71, SHl_72, SHl_73, SHl_74, SHl_75, S_X8_found, S_X8_isMissing, S_X8_isPart, S_X8_isPiece, S_X8_isRow, S_X8_isWindow, S_X8_moveTo, S_X8_priceOf, S_X8_well]
        unfold czZ at hz
        exact ⟨⟨by omega, by omega⟩, ⟨by omega, by omega⟩, fun _ => hz, fun q => by omega⟩
      | succ d ih =>
        intro k s hk hp hz u6 u7
        have occ := oc k (by omega)
        obtain ⟨e1, e2, e3, e4, e5⟩ := vM_c (σ := σ) (w := 64) (c := k) (by omega)
        rw [← hVe] at e1 e2 e3 e4 e5
        unfold czZ at hz
        obtain ⟨g1, g2⟩ := hfR k
        have pb := fun h1 h2 => pV_b (V := V) (c := k) (x := f k) hV (by omega) h1 h2
        refine hK (fun q => q == 68) 100 _ _ _ _ ?_
        simp only [↓wp, ↓stp, ilen, lnth, st1, st2, nolong, nohead, rnth, ↓gfX, ↓pfX, gfV, pfV, cpF, cpP, cndZ, ↓tgo, ↓tsw, ↓lsw, ↓ldI, ↓ldA, ↓ldL, ↓stI, ↓stA, ↓stL, ↓bin, ↓binD, ↓binL, ↓binDL, ↓una, ↓acV, ↓acK, ↓acpy, ↓inv, entL, nones, List.length_cons, List.length_nil, List.take, List.drop, List.reverse_cons, List.reverse_nil, List.nil_append, List.cons_append, Option.toList_some, Option.toList_none, Nat.reduceAdd, Nat.reduceSub, Nat.reduceLT, Nat.reduceEqDiff, Fin.isValue, aTL, aSZ, Int.toNat_natCast, hset_same, hset_o, hset_s, hset_row, ne_eq, Nat.reduceBEq, beq_self_eq_true, Fin.val_zero, Fin.val_one, fin0, fin1, fin2, fin3, Nat.le_refl, Nat.reduceLeDiff, Nat.zero_le, Int.reduceAdd, Int.reduceNeg, Int.reduceLE, Int.reduceLT, Int.reduceToNat, Int.reduceMul, Int.cast_ofNat_Int, Nat.reduceMod, ↓reduceIte, if_true, if_false, and_true, true_and, or_true, true_or, false_or, or_false, and_self, not_true_eq_false, not_false_eq_true, Bool.false_eq_true, reduceCtorEq, false_implies, true_implies, implies_true, and_false, false_and, dX8_cost_0, dX8_cost_1, dX8_cost_4, dX8_cost_7, dX8_cost_9, dX8_cost_10, dX8_cost_11, dX8_cost_14, dX8_cost_17, dX8_cost_19, dX8_cost_20, dX8_cost_21, dX8_cost_22, dX8_cost_25, dX8_cost_28, dX8_cost_29, dX8_cost_30, dX8_cost_33, dX8_cost_34, dX8_cost_35, dX8_cost_36, dX8_cost_37, dX8_cost_38, dX8_cost_41, dX8_cost_42, dX8_cost_43, dX8_cost_46, dX8_cost_49, dX8_cost_50, dX8_cost_51, dX8_cost_54, dX8_cost_55, dX8_cost_57, dX8_cost_58, dX8_cost_59, dX8_cost_60, dX8_cost_61, dX8_cost_62, dX8_cost_63, dX8_cost_65, dX8_cost_66, dX8_cost_68, dX8_cost_70, dX8_cost_71, dX8_cost_74, dX8_cost_75, dX8_cost_76, dX8_cost_79, dX8_cost_80, dX8_cost_83, dX8_cost_84, dX8_cost_86, dX8_cost_87, dX8_cost_88, dX8_cost_90, dX8_cost_92, dX8_cost_95, dX8_cost_97, dX8_cost_100, dX8_cost_103, dX8_cost_104, dX8_cost_107, dX8_cost_108, dX8_cost_111, dX8_cost_113, dX8_cost_114, dX8_cost_117, dX8_cost_118, dX8_cost_120, dX8_cost_121, dX8_cost_122, dX8_cost_123, dX8_cost_124, dX8_cost_126, dX8_cost_129, dX8_cost_131, dX8_cost_133, dX8_cost_136, dX8_cost_139, dX8_cost_141, dX8_cost_143, dX8_cost_146, dX8_cost_147, dX8_cost_149, dX8_cost_152, dX8_cost_153, dX8_cost_155, dX8_cost_157, dX8_cost_158, dX8_cost_161, dX8_cost_163, dX8_cost_165, dX8_cost_168, dX8_cost_169, dX8_cost_170, dX8_cost_172, dX8_cost_175, dX8_cost_178, dX8_cost_179, dX8_cost_181, dX8_cost_184, cpX8, mT_X8_cost, SHl_58, SHl_59, SHl_60, SHl_61, SHl_62, SHl_63, SHl_64, SHl_65, SHl_66, SHl_67, SHl_68, SHl_69, SHl_70, SHl_71, SHl_72, SHl_73, SHl_74, SHl_75, S_X8_found, S_X8_isMissing, S_X8_isPart, S_X8_isPiece, S_X8_isRow, S_X8_isWindow, S_X8_moveTo, S_X8_priceOf, S_X8_well, hfk, ix0, ix4, ← hVe]
        rw [← e1, ← e3]
        by_cases h1 : -15 ≤ f k ∧ f k ≤ 8
        · rw [if_neg (fun z => z h1)] at hz
          by_cases h0 : k = 0
          · rw [if_neg (by omega), if_pos h0] at hz
            have hx := ih (k + 1) _ (by omega) (fun _ => h1) hz
            (repeat' (first | exact isW_64 | exact hV | apply And.intro | intro _)) <;> first | omega | exact hx _ _
          · rw [hfk1 k (by omega)]
            have hp1 := hp (by omega)
            rw [if_neg h0] at hz
            have sb : 0 ≤ stepZ (V 3 k) (f (k - 1)) (f k) ∧ stepZ (V 3 k) (f (k - 1)) (f k) ≤ 23 := by
              unfold stepZ
              split <;> omega
            by_cases h3 : 4 ≤ V 1 k ∧ f (k - 1) ≠ f k
            · rw [if_pos ⟨by omega, h3⟩] at hz
              rw [if_pos h3]
              (repeat' (first | exact isW_64 | exact hV | exact hz | apply And.intro | intro _)) <;> first | omega | exact hz
            · rw [if_neg (fun z => h3 z.2)] at hz
              rw [if_neg h3]
              have hx := ih (k + 1) _ (by omega) (fun _ => h1) hz
              (repeat' (first | exact isW_64 | exact hV | exact hx _ _ | apply And.intro | intro _)) <;> first | omega | exact hx _ _
        · rw [if_pos h1] at hz
          rw [if_neg h1]
          (repeat' (first | exact hz | apply And.intro | intro _)) <;> first | omega | exact hz
    exact loop (ncV V) 0 0 (by omega) (fun h => by omega) hq
  refine hK (fun q => q == 68) 200 _ _ _ _ ?_
  simp only [↓wp, ↓stp, ilen, lnth, st1, st2, nolong, nohead, rnth, ↓gfX, ↓pfX, gfV, pfV, cpF, cpP, cndZ, ↓tgo, ↓tsw, ↓lsw, ↓ldI, ↓ldA, ↓ldL, ↓stI, ↓stA, ↓stL, ↓bin, ↓binD, ↓binL, ↓binDL, ↓una, ↓acV, ↓acK, ↓acpy, ↓inv, entL, nones, List.length_cons, List.length_nil, List.take, List.drop, List.reverse_cons, List.reverse_nil, List.nil_append, List.cons_append, Option.toList_some, Option.toList_none, Nat.reduceAdd, Nat.reduceSub, Nat.reduceLT, Nat.reduceEqDiff, Fin.isValue, aTL, aSZ, Int.toNat_natCast, hset_same, hset_o, hset_s, hset_row, ne_eq, Nat.reduceBEq, beq_self_eq_true, Fin.val_zero, Fin.val_one, fin0, fin1, fin2, fin3, Nat.le_refl, Nat.reduceLeDiff, Nat.zero_le, Int.reduceAdd, Int.reduceNeg, Int.reduceLE, Int.reduceLT, Int.reduceToNat, Int.reduceMul, Int.cast_ofNat_Int, Nat.reduceMod, ↓reduceIte, if_true, if_false, and_true, true_and, or_true, true_or, false_or, or_false, and_self, not_true_eq_false, not_false_eq_true, Bool.false_eq_true, reduceCtorEq, false_implies, true_implies, implies_true, and_false, false_and, dX8_cost_0, dX8_cost_1, dX8_cost_4, dX8_cost_7, dX8_cost_9, dX8_cost_10, dX8_cost_11, dX8_cost_14, dX8_cost_17, dX8_cost_19, dX8_cost_20, dX8_cost_21, dX8_cost_22, dX8_cost_25, dX8_cost_28, dX8_cost_29, dX8_cost_30, dX8_cost_33, dX8_cost_34, dX8_cost_35, dX8_cost_36, dX8_cost_37, dX8_cost_38, dX8_cost_41, dX8_cost_42, dX8_cost_43, dX8_cost_46, dX8_cost_49, dX8_cost_50, dX8_cost_51, dX8_cost_54, dX8_cost_55, dX8_cost_57, dX8_cost_58, dX8_cost_59, dX8_cost_60, dX8_cost_61, dX8_cost_62, dX8_cost_63, dX8_cost_65, dX8_cost_66, dX8_cost_68, dX8_cost_70, dX8_cost_71, dX8_cost_74, dX8_cost_75, dX8_cost_76, dX8_cost_79, dX8_cost_80, dX8_cost_83, dX8_cost_84, dX8_cost_86, dX8_cost_87, dX8_cost_88, dX8_cost_90, dX8_cost_92, dX8_cost_95, dX8_cost_97, dX8_cost_100, dX8_cost_103, dX8_cost_104, dX8_cost_107, dX8_cost_108, dX8_cost_111, dX8_cost_113, dX8_cost_114, dX8_cost_117, dX8_cost_118, dX8_cost_120, dX8_cost_121, dX8_cost_122, dX8_cost_123, dX8_cost_124, dX8_cost_126, dX8_cost_129, dX8_cost_131, dX8_cost_133, dX8_cost_136, dX8_cost_139, dX8_cost_141, dX8_cost_143, dX8_cost_146, dX8_cost_147, dX8_cost_149, dX8_cost_152, dX8_cost_153, dX8_cost_155, dX8_cost_157, dX8_cost_158, dX8_cost_161, dX8_cost_163, dX8_cost_165, dX8_cost_168, dX8_cost_169, dX8_cost_170, dX8_cost_172, dX8_cost_175, dX8_cost_178, dX8_cost_179, dX8_cost_181, dX8_cost_184, cpX8, mT_X8_cost, SHl_58, SHl_59, SHl_60, SHl_61, SHl_62, SHl_63, SHl_64, SHl_65, SHl_66, SHl_67, SHl_68, SHl_69, SHl_70, SHl_71, SHl_72, SHl_73, SHl_74, SHl_75, S_X8_found, S_X8_isMissing, S_X8_isPart, S_X8_isPiece, S_X8_isRow, S_X8_isWindow, S_X8_moveTo, S_X8_priceOf, S_X8_well]
  by_cases hr : 0 ≤ r ∧ r < 8
  · obtain ⟨⟨g1, g2⟩, g3⟩ := hI r.toNat (by omega)
    (repeat' (first | apply And.intro | intro _)) <;> first | omega | (exact main (by omega) (by omega) (by omega) (by omega) _ _) | (repeat (first | rw [if_pos (by omega)] at hq | rw [if_neg (by omega)] at hq)) <;> exact hq
  · (repeat' (first | apply And.intro | intro _)) <;> first | omega | exact hq | (rw [if_pos (by omega)] at hq; exact hq) | (rw [if_neg (by omega)] at hq; exact hq) | (repeat (first | rw [if_pos (by omega)] at hq | rw [if_neg (by omega)] at hq)) <;> exact hq | assumption | exact R32_of _
