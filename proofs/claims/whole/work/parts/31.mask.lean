/-! ===== the reference: chord, as, ask ===== -/
def S_X8_chord : MSpec := fun a σ Q => match a with
  | [.inr (.inl 58), .inl c, .inl w] => R32 c ∧ R32 w ∧ okV (vM σ 64 0) ∧ (if ¬ (0 ≤ c ∧ c < σ 64 1) then Q (some (.inl (-1000001))) σ else if w = 2 then (∀ τ, fdOk σ τ (vM σ 64 0) → Q (some (.inl ((winV (vM σ 64 0) c.toNat : Int) - 15))) τ) else if w = 3 then (∀ τ, fdOk σ τ (vM σ 64 0) → Q (some (.inl (pV (vM σ 64 0) c.toNat ((winV (vM σ 64 0) c.toNat : Int) - 15)))) τ) else Q (some (.inl (if w = 0 then vM σ 64 0 5 c.toNat else if w = 1 then vM σ 64 0 4 c.toNat else if w = 4 then vM σ 64 0 2 c.toNat else if w = 5 then vM σ 64 0 3 c.toNat else -1000001))) σ)
  | _ => False
theorem rc_X8_chord : ∀ a σ Q, S_X8_chord a σ Q → ∃ (p : Nat) (r : List AV), a = .inr (.inl p) :: r ∧ p < 76 ∧ (SH p).1 = 4 ∧ (SH p).2.1 = 7 := by
  intro a σ Q h
  unfold S_X8_chord at h
  split at h
  · exact ⟨58, _, rfl, by decide, rfl, rfl⟩
  · exact h.elim
def mT_X8_chord (i : Nat) : Option (Nat × Bool × MSpec) := match i with
  | 192 => some (3, false, S_X8_priceOf)
  | 212 => some (2, true, S_X8_isChord)
  | 228 => some (2, true, S_X8_windowOf)
  | _ => none
theorem mT_X8_chord_ok {l : Launch} {n : Nat} (hn : 8 ≤ n) : ∀ i e, mT_X8_chord i = some e → mV l (rmOf n) RX8 i e := by
  intro i e h
  unfold mT_X8_chord at h
  split at h
  · cases h; exact mvS (lv := 4) mw_X8_priceOf (by omega) (by decide) (by decide +kernel) (Or.inl (gtm 1019 (by decide +kernel) (by decide +kernel))) ok_X8_priceOf
  · cases h; exact mvI (lv := 1) (ci := 7) (T := TX8) (N := 28) mw_X8_isChord rfl (by omega) (by decide) (by decide +kernel) (gtm 936 (by decide +kernel) (by decide +kernel)) rc_X8_isChord ok_X8_isChord
  · cases h; exact mvI (lv := 7) (ci := 7) (T := TX8) (N := 28) mw_X8_windowOf rfl (by omega) (by decide) (by decide +kernel) (gtm 1032 (by decide +kernel) (by decide +kernel)) rc_X8_windowOf ok_X8_windowOf
  · cases h
set_option maxRecDepth 100000 in
set_option maxHeartbeats 4000000 in
theorem ok_X8_chord : ∀ l n, 8 ≤ n → ∀ a σ Q, S_X8_chord a σ Q → AM l n yX8_chord cX8_chord 3 (some .int) a σ Q := by
  intro l n hn a σ Q hS
  unfold S_X8_chord at hS
  split at hS
  rotate_left
  · exact hS.elim
  rename_i c w
  obtain ⟨⟨c1, c2⟩, ⟨w1, w2⟩, hV, hq⟩ := hS
  refine am_ofF 1 cpX8 mT_X8_chord (plainFor_of_name (by decide +kernel)) (rfl) (Nat.le_of_ble_eq_true rfl) (cpX8_ok) (mT_X8_chord_ok hn) (fun K hK => ?_)
  refine hK (fun _ => false) 200 _ _ _ _ ?_
  simp only [↓wp, ↓stp, ilen, lnth, st1, st2, nolong, nohead, rnth, ↓gfX, ↓pfX, gfV, pfV, cpF, cpP, cndZ, ↓tgo, ↓tsw, ↓lsw, ↓ldI, ↓ldA, ↓ldL, ↓stI, ↓stA, ↓stL, ↓bin, ↓binD, ↓binL, ↓binDL, ↓una, ↓acV, ↓acK, ↓acpy, ↓inv, entL, nones, List.length_cons, List.length_nil, List.take, List.drop, List.reverse_cons, List.reverse_nil, List.nil_append, List.cons_append, Option.toList_some, Option.toList_none, Nat.reduceAdd, Nat.reduceSub, Nat.reduceLT, Nat.reduceEqDiff, Fin.isValue, aTL, aSZ, Int.toNat_natCast, hset_same, hset_o, hset_s, hset_row, ne_eq, Nat.reduceBEq, beq_self_eq_true, Fin.val_zero, Fin.val_one, fin0, fin1, fin2, fin3, Nat.le_refl, Nat.reduceLeDiff, Nat.zero_le, Int.reduceAdd, Int.reduceNeg, Int.reduceLE, Int.reduceLT, Int.reduceToNat, Int.reduceMul, Int.cast_ofNat_Int, Nat.reduceMod, ↓reduceIte, if_true, if_false, and_true, true_and, or_true, true_or, false_or, or_false, and_self, not_true_eq_false, not_false_eq_true, Bool.false_eq_true, reduceCtorEq, false_implies, true_implies, implies_true, and_false, false_and, dX8_chord_0, dX8_chord_1, dX8_chord_2, dX8_chord_5, dX8_chord_8, dX8_chord_10, dX8_chord_11, dX8_chord_12, dX8_chord_52, dX8_chord_53, dX8_chord_56, dX8_chord_57, dX8_chord_58, dX8_chord_59, dX8_chord_60, dX8_chord_61, dX8_chord_62, dX8_chord_63, dX8_chord_64, dX8_chord_65, dX8_chord_66, dX8_chord_69, dX8_chord_70, dX8_chord_71, dX8_chord_72, dX8_chord_73, dX8_chord_74, dX8_chord_75, dX8_chord_76, dX8_chord_77, dX8_chord_78, dX8_chord_79, dX8_chord_80, dX8_chord_83, dX8_chord_84, dX8_chord_85, dX8_chord_88, dX8_chord_89, dX8_chord_90, dX8_chord_91, dX8_chord_94, dX8_chord_97, dX8_chord_98, dX8_chord_99, dX8_chord_102, dX8_chord_103, dX8_chord_104, dX8_chord_105, dX8_chord_106, dX8_chord_107, dX8_chord_108, dX8_chord_109, dX8_chord_110, dX8_chord_111, dX8_chord_112, dX8_chord_115, dX8_chord_116, dX8_chord_117, dX8_chord_118, dX8_chord_119, dX8_chord_120, dX8_chord_121, dX8_chord_122, dX8_chord_123, dX8_chord_124, dX8_chord_126, cpX8, mT_X8_chord, SHl_58, SHl_59, SHl_60, SHl_61, SHl_62, SHl_63, SHl_64, SHl_65, SHl_66, SHl_67, SHl_68, SHl_69, SHl_70, SHl_71, SHl_72, SHl_73, SHl_74, SHl_75, S_X8_isChord, S_X8_priceOf, S_X8_windowOf]
  obtain ⟨v0, v1, v2⟩ := vM_0 σ 64
  have o2 := hV.2.1
  by_cases hc : 0 ≤ c ∧ c < σ 64 1
  · rw [if_neg (by omega)] at hq
    obtain ⟨e1, e2, e3, e4, e5⟩ := vM_c (σ := σ) (w := 64) (c := c.toNat) (by omega)
    rw [show 5 * c.toNat + 3 = (3 + 5 * c).toNat by omega] at e1
    rw [show 5 * c.toNat + 6 = (3 + 5 * c + 3).toNat by omega] at e2
    rw [show 5 * c.toNat + 7 = (3 + 5 * c + 4).toNat by omega] at e3
    rw [show 5 * c.toNat + 4 = (3 + 5 * c + 1).toNat by omega] at e4
    rw [show 5 * c.toNat + 5 = (3 + 5 * c + 2).toNat by omega] at e5
    rw [← e2, ← e3, ← e4, ← e5]
    have wl := winV_lt hV (by unfold ncV; omega) c.toNat (by unfold ncV; omega)
    have p2 : w = 2 → ∀ τ, fdOk σ τ (vM σ 64 0) → Q (some (.inl ((winV (vM σ 64 0) c.toNat : Int) - 15))) τ := fun h => by
      rw [if_pos h] at hq
      exact hq
    have p3 : w = 3 → ∀ τ, fdOk σ τ (vM σ 64 0) → (isW 64 ∧ okV (vM τ 64 0) ∧ (0 ≤ c ∧ c < τ 64 1) ∧ (-15 ≤ (winV (vM σ 64 0) c.toNat : Int) - 15 ∧ (winV (vM σ 64 0) c.toNat : Int) - 15 ≤ 8) ∧ Q (some (.inl (pV (vM τ 64 0) c.toNat ((winV (vM σ 64 0) c.toNat : Int) - 15)))) τ) := fun h τ hτ => by
      rw [if_neg (by omega), if_pos h] at hq
      have h64 : τ 64 = σ 64 := hτ.1 64 (by unfold fdP; omega)
      rw [vM_only h64, h64]
      exact ⟨isW_64, hV, hc, by omega, hq τ hτ⟩
    (repeat' (first | exact hV | exact p2 (by omega) _ ‹_› | exact p3 (by omega) _ ‹_› | apply And.intro | intro _)) <;> first | omega | (repeat (first | rw [if_pos (by omega)] at hq | rw [if_neg (by omega)] at hq)) <;> exact hq
  · (repeat' (first | apply And.intro | intro _)) <;> first | omega | exact hq | (rw [if_pos (by omega)] at hq; exact hq) | (rw [if_neg (by omega)] at hq; exact hq) | (repeat (first | rw [if_pos (by omega)] at hq | rw [if_neg (by omega)] at hq)) <;> exact hq | assumption | exact R32_of _
def S_X8_as : MSpec := fun a σ Q => match a with
  | [.inr (.inl 58), .inl c, .inl q] => R32 c ∧ R32 q ∧ okV (vM σ 64 0) ∧ (if ¬ (0 ≤ c ∧ c < σ 64 1) ∨ ¬ (0 ≤ q ∧ q ≤ 5) then Q (some (.inl (-1000001))) σ else if q = 0 ∨ q = vM σ 64 0 1 c.toNat ∨ (q = 1 ∧ (vM σ 64 0 1 c.toNat = 2 ∨ vM σ 64 0 1 c.toNat = 3)) ∨ (q = 4 ∧ vM σ 64 0 1 c.toNat = 5) then Q (some (.inl c)) (hset σ 58 4 0) else Q (some (.inl (-1000013))) (hset σ 58 4 3))
  | _ => False
theorem rc_X8_as : ∀ a σ Q, S_X8_as a σ Q → ∃ (p : Nat) (r : List AV), a = .inr (.inl p) :: r ∧ p < 76 ∧ (SH p).1 = 4 ∧ (SH p).2.1 = 7 := by
  intro a σ Q h
  unfold S_X8_as at h
  split at h
  · exact ⟨58, _, rfl, by decide, rfl, rfl⟩
  · exact h.elim
def mT_X8_as (i : Nat) : Option (Nat × Bool × MSpec) := match i with
  | 68 => some (3, false, S_X8_in)
  | 77 => some (2, true, S_X8_found)
  | 81 => some (2, true, S_X8_well)
  | 212 => some (2, true, S_X8_isChord)
  | 260 => some (2, true, S_X8_kindIn)
  | _ => none
theorem mT_X8_as_ok {l : Launch} {n : Nat} (hn : 2 ≤ n) : ∀ i e, mT_X8_as i = some e → mV l (rmOf n) RX8 i e := by
  intro i e h
  unfold mT_X8_as at h
  split at h
  · cases h; exact mvS (lv := 0) mw_X8_in (by omega) (by decide) (by decide +kernel) (Or.inl (gtm 831 (by decide +kernel) (by decide +kernel))) ok_X8_in
  · cases h; exact mvI (lv := 0) (ci := 7) (T := TX8) (N := 28) mw_X8_found rfl (by omega) (by decide) (by decide +kernel) (gtm 835 (by decide +kernel) (by decide +kernel)) rc_X8_found ok_X8_found
  · cases h; exact mvI (lv := 0) (ci := 7) (T := TX8) (N := 28) mw_X8_well rfl (by omega) (by decide) (by decide +kernel) (gtm 840 (by decide +kernel) (by decide +kernel)) rc_X8_well ok_X8_well
  · cases h; exact mvI (lv := 1) (ci := 7) (T := TX8) (N := 28) mw_X8_isChord rfl (by omega) (by decide) (by decide +kernel) (gtm 936 (by decide +kernel) (by decide +kernel)) rc_X8_isChord ok_X8_isChord
  · cases h; exact mvI (lv := 0) (ci := 7) (T := TX8) (N := 28) mw_X8_kindIn rfl (by omega) (by decide) (by decide +kernel) (gtm 1097 (by decide +kernel) (by decide +kernel)) rc_X8_kindIn ok_X8_kindIn
  · cases h
set_option maxRecDepth 100000 in
set_option maxHeartbeats 4000000 in
theorem ok_X8_as : ∀ l n, 2 ≤ n → ∀ a σ Q, S_X8_as a σ Q → AM l n yX8_as cX8_as 5 (some .int) a σ Q := by
  intro l n hn a σ Q hS
  unfold S_X8_as at hS
  split at hS
  rotate_left
  · exact hS.elim
  rename_i c q
  obtain ⟨⟨c1, c2⟩, ⟨w1, w2⟩, hV, hq⟩ := hS
  refine am_ofF 1 cpX8 mT_X8_as (plainFor_of_name (by decide +kernel)) (rfl) (Nat.le_of_ble_eq_true rfl) (cpX8_ok) (mT_X8_as_ok hn) (fun K hK => ?_)
  refine hK (fun _ => false) 200 _ _ _ _ ?_
  simp only [↓wp, ↓stp, ilen, lnth, st1, st2, nolong, nohead, rnth, ↓gfX, ↓pfX, gfV, pfV, cpF, cpP, cndZ, ↓tgo, ↓tsw, ↓lsw, ↓ldI, ↓ldA, ↓ldL, ↓stI, ↓stA, ↓stL, ↓bin, ↓binD, ↓binL, ↓binDL, ↓una, ↓acV, ↓acK, ↓acpy, ↓inv, entL, nones, List.length_cons, List.length_nil, List.take, List.drop, List.reverse_cons, List.reverse_nil, List.nil_append, List.cons_append, Option.toList_some, Option.toList_none, Nat.reduceAdd, Nat.reduceSub, Nat.reduceLT, Nat.reduceEqDiff, Fin.isValue, aTL, aSZ, Int.toNat_natCast, hset_same, hset_o, hset_s, hset_row, ne_eq, Nat.reduceBEq, beq_self_eq_true, Fin.val_zero, Fin.val_one, fin0, fin1, fin2, fin3, Nat.le_refl, Nat.reduceLeDiff, Nat.zero_le, Int.reduceAdd, Int.reduceNeg, Int.reduceLE, Int.reduceLT, Int.reduceToNat, Int.reduceMul, Int.cast_ofNat_Int, Nat.reduceMod, ↓reduceIte, if_true, if_false, and_true, true_and, or_true, true_or, false_or, or_false, and_self, not_true_eq_false, not_false_eq_true, Bool.false_eq_true, reduceCtorEq, false_implies, true_implies, implies_true, and_false, false_and, dX8_as_0, dX8_as_1, dX8_as_2, dX8_as_5, dX8_as_8, dX8_as_9, dX8_as_10, dX8_as_11, dX8_as_14, dX8_as_17, dX8_as_19, dX8_as_20, dX8_as_21, dX8_as_22, dX8_as_25, dX8_as_26, dX8_as_27, dX8_as_30, dX8_as_31, dX8_as_32, dX8_as_35, dX8_as_36, dX8_as_37, dX8_as_40, dX8_as_41, dX8_as_42, dX8_as_45, dX8_as_46, dX8_as_47, dX8_as_50, dX8_as_51, dX8_as_52, dX8_as_55, dX8_as_56, dX8_as_59, dX8_as_60, dX8_as_62, dX8_as_64, dX8_as_67, dX8_as_68, dX8_as_69, dX8_as_72, dX8_as_75, dX8_as_76, dX8_as_77, dX8_as_80, cpX8, mT_X8_as, SHl_58, SHl_59, SHl_60, SHl_61, SHl_62, SHl_63, SHl_64, SHl_65, SHl_66, SHl_67, SHl_68, SHl_69, SHl_70, SHl_71, SHl_72, SHl_73, SHl_74, SHl_75, S_X8_found, S_X8_in, S_X8_isChord, S_X8_kindIn, S_X8_well]
  obtain ⟨v0, v1, v2⟩ := vM_0 σ 64
  have o2 := hV.2.1
  by_cases hc : 0 ≤ c ∧ c < σ 64 1
  · obtain ⟨e1, e2, e3, e4, e5⟩ := vM_c (σ := σ) (w := 64) (c := c.toNat) (by omega)
    have hk := (hV.2.2.2.2.1 c.toNat (by omega)).1
    rw [show 5 * c.toNat + 3 = (3 + 5 * c).toNat by omega] at e1
    rw [← e1]
    generalize vM σ 64 0 1 c.toNat = kd at *
    (repeat' (first | apply And.intro | intro _)) <;> first | omega | (repeat (first | rw [if_pos (by omega)] at hq | rw [if_neg (by omega)] at hq)) <;> exact hq
  · (repeat' (first | apply And.intro | intro _)) <;> first | omega | exact hq | (rw [if_pos (by omega)] at hq; exact hq) | (rw [if_neg (by omega)] at hq; exact hq) | (repeat (first | rw [if_pos (by omega)] at hq | rw [if_neg (by omega)] at hq)) <;> exact hq | assumption | exact R32_of _
/-- a body leaves its number -/
def pushG (p k q : Nat) (σ : HP) (b : Int) : HP := hset (hset σ q (σ p k).toNat b) p k (σ p k + 1)
def pushL (p k q : Nat) (σ : HP) : List Int → HP
  | [] => σ
  | b :: r => pushL p k q (pushG p k q σ b) r
theorem pushG_n {p k q : Nat} {σ : HP} {b : Int} : pushG p k q σ b p k = σ p k + 1 := hset_same
theorem pushG_o {p k q : Nat} {σ : HP} {b : Int} {x : Nat} (h1 : x ≠ p) (h2 : x ≠ q) : pushG p k q σ b x = σ x := by
  unfold pushG
  rw [hset_row h1, hset_row h2]
theorem pushG_s {p k q : Nat} {σ : HP} {b : Int} {x : Nat} (h1 : x ≠ k) (h2 : p ≠ q) : pushG p k q σ b p x = σ p x := by
  unfold pushG
  rw [hset_s h1, hset_o h2]
theorem pushL_o {p k q : Nat} {x : Nat} (h1 : x ≠ p) (h2 : x ≠ q) : ∀ (L : List Int) (σ : HP), pushL p k q σ L x = σ x
  | [], σ => rfl
  | b :: r, σ => by
    show pushL p k q (pushG p k q σ b) r x = _
    rw [pushL_o h1 h2 r, pushG_o h1 h2]
theorem pushL_s {p k q : Nat} {x : Nat} (h1 : x ≠ k) (h2 : p ≠ q) : ∀ (L : List Int) (σ : HP), pushL p k q σ L p x = σ p x
  | [], σ => rfl
  | b :: r, σ => by
    show pushL p k q (pushG p k q σ b) r p x = _
    rw [pushL_s h1 h2 r, pushG_s h1 h2]
theorem pushL_n {p k q : Nat} : ∀ (L : List Int) (σ : HP), pushL p k q σ L p k = σ p k + L.length
  | [], σ => by simp [pushL]
  | b :: r, σ => by
    show pushL p k q (pushG p k q σ b) r p k = _
    rw [pushL_n r, pushG_n, List.length_cons]
    omega
theorem pushL_old {p k q : Nat} (hpq : p ≠ q) : ∀ (L : List Int) (σ : HP) (j : Nat), 0 ≤ σ p k → (j : Int) < σ p k → pushL p k q σ L q j = σ q j
  | [], σ, j, _, _ => rfl
  | b :: r, σ, j, h0, h => by
    show pushL p k q (pushG p k q σ b) r q j = _
    rw [pushL_old hpq r _ j (by rw [pushG_n]; omega) (by rw [pushG_n]; omega)]
    unfold pushG
    rw [hset_o (Ne.symm hpq), hset_s (by omega)]
theorem pushL_at {p k q : Nat} (hpq : p ≠ q) : ∀ (L : List Int) (σ : HP) (j : Nat), 0 ≤ σ p k → j < L.length → pushL p k q σ L q ((σ p k).toNat + j) = L.getD j 0
  | [], σ, j, _, h => absurd h (Nat.not_lt_zero j)
  | b :: r, σ, j, h0, h => by
    show pushL p k q (pushG p k q σ b) r q _ = _
    rcases j with _ | j
    · rw [pushL_old hpq r _ _ (by rw [pushG_n]; omega) (by rw [pushG_n]; omega)]
      unfold pushG
      rw [hset_o (Ne.symm hpq), Nat.add_zero, hset_same]
      rfl
    · have := pushL_at hpq r (pushG p k q σ b) j (by rw [pushG_n]; omega) (by rw [List.length_cons] at h; omega)
      rw [pushG_n, show (σ p k + 1).toNat + j = (σ p k).toNat + (j + 1) by omega] at this
      rw [this]
      rfl
def S_X8_begins : MSpec := fun a σ Q => match a with
  | [.inr (.inl 58), .inl b] => (0 ≤ σ 58 27 ∧ σ 58 27 < 16) ∧ Q none (pushG 58 27 75 σ b)
  | _ => False
theorem rc_X8_begins : ∀ a σ Q, S_X8_begins a σ Q → ∃ (p : Nat) (r : List AV), a = .inr (.inl p) :: r ∧ p < 76 ∧ (SH p).1 = 4 ∧ (SH p).2.1 = 7 := by
  intro a σ Q h
  unfold S_X8_begins at h
  split at h
  · exact ⟨58, _, rfl, by decide, rfl, rfl⟩
  · exact h.elim
def mT_X8_begins (i : Nat) : Option (Nat × Bool × MSpec) := match i with
  | _ => none
theorem mT_X8_begins_ok {l : Launch} {n : Nat} (hn : 0 ≤ n) : ∀ i e, mT_X8_begins i = some e → mV l (rmOf n) RX8 i e := by
  intro i e h
  unfold mT_X8_begins at h
  split at h
  · cases h
set_option maxRecDepth 100000 in
set_option maxHeartbeats 4000000 in
theorem ok_X8_begins : ∀ l n, 0 ≤ n → ∀ a σ Q, S_X8_begins a σ Q → AM l n yX8_begins cX8_begins 2 none a σ Q := by
  intro l n hn a σ Q hS
  unfold S_X8_begins at hS
  split at hS
  rotate_left
  · exact hS.elim
  rename_i b
  obtain ⟨h1, hq⟩ := hS
  refine am_ofF 0 cpX8 mT_X8_begins (plainFor_of_name (by decide +kernel)) (rfl) (Nat.le_of_ble_eq_true rfl) (cpX8_ok) (mT_X8_begins_ok hn) (fun K hK => ?_)
  refine hK (fun _ => false) 200 _ _ _ _ ?_
  simp only [↓wp, ↓stp, ilen, lnth, st1, st2, nolong, nohead, rnth, ↓gfX, ↓pfX, gfV, pfV, cpF, cpP, cndZ, ↓tgo, ↓tsw, ↓lsw, ↓ldI, ↓ldA, ↓ldL, ↓stI, ↓stA, ↓stL, ↓bin, ↓binD, ↓binL, ↓binDL, ↓una, ↓acV, ↓acK, ↓acpy, ↓inv, entL, nones, List.length_cons, List.length_nil, List.take, List.drop, List.reverse_cons, List.reverse_nil, List.nil_append, List.cons_append, Option.toList_some, Option.toList_none, Nat.reduceAdd, Nat.reduceSub, Nat.reduceLT, Nat.reduceEqDiff, Fin.isValue, aTL, aSZ, Int.toNat_natCast, hset_same, hset_o, hset_s, hset_row, ne_eq, Nat.reduceBEq, beq_self_eq_true, Fin.val_zero, Fin.val_one, fin0, fin1, fin2, fin3, Nat.le_refl, Nat.reduceLeDiff, Nat.zero_le, Int.reduceAdd, Int.reduceNeg, Int.reduceLE, Int.reduceLT, Int.reduceToNat, Int.reduceMul, Int.cast_ofNat_Int, Nat.reduceMod, ↓reduceIte, if_true, if_false, and_true, true_and, or_true, true_or, false_or, or_false, and_self, not_true_eq_false, not_false_eq_true, Bool.false_eq_true, reduceCtorEq, false_implies, true_implies, implies_true, and_false, false_and, dX8_begins_0, dX8_begins_1, dX8_begins_4, dX8_begins_6, dX8_begins_9, dX8_begins_10, dX8_begins_13, dX8_begins_14, dX8_begins_17, dX8_begins_18, dX8_begins_19, dX8_begins_20, dX8_begins_21, dX8_begins_24, dX8_begins_25, dX8_begins_26, dX8_begins_29, cpX8, mT_X8_begins, SHl_58, SHl_59, SHl_60, SHl_61, SHl_62, SHl_63, SHl_64, SHl_65, SHl_66, SHl_67, SHl_68, SHl_69, SHl_70, SHl_71, SHl_72, SHl_73, SHl_74, SHl_75]
  unfold pushG at hq
  (repeat' (first | apply And.intro | intro _)) <;> first | omega | exact hq | (rw [if_pos (by omega)] at hq; exact hq) | (rw [if_neg (by omega)] at hq; exact hq) | (repeat (first | rw [if_pos (by omega)] at hq | rw [if_neg (by omega)] at hq)) <;> exact hq | assumption | exact R32_of _
theorem pgn {σ : HP} {b : Int} : pushG 58 27 75 σ b 58 27 = σ 58 27 + 1 := hset_same
theorem pg4 {σ : HP} {b : Int} : pushG 58 27 75 σ b 64 = σ 64 := pushG_o (by decide) (by decide)
def S_X8_heldSize : MSpec := fun a σ Q => match a with
  | [.inr (.inl 58), .inl c] => (0 ≤ c ∧ c < 10) ∧ (0 ≤ σ 58 27 ∧ σ 58 27 < 10) ∧ (1 ≤ σ 64 (3 + 5 * c).toNat ∧ σ 64 (3 + 5 * c).toNat ≤ 5) ∧ (if σ 64 (3 + 5 * c).toNat = 5 then Q (some (.inl (2 * (σ 64 (3 + 5 * c + 2).toNat - 100)))) (pushL 58 27 75 σ [14, 13, 10]) else Q (some (.inl (σ 64 (3 + 5 * c + 2).toNat - 100))) (pushL 58 27 75 σ [13, 10]))
  | _ => False
theorem rc_X8_heldSize : ∀ a σ Q, S_X8_heldSize a σ Q → ∃ (p : Nat) (r : List AV), a = .inr (.inl p) :: r ∧ p < 76 ∧ (SH p).1 = 4 ∧ (SH p).2.1 = 7 := by
  intro a σ Q h
  unfold S_X8_heldSize at h
  split at h
  · exact ⟨58, _, rfl, by decide, rfl, rfl⟩
  · exact h.elim
def mT_X8_heldSize (i : Nat) : Option (Nat × Bool × MSpec) := match i with
  | 260 => some (2, true, S_X8_kindIn)
  | 266 => some (2, true, S_X8_begins)
  | _ => none
theorem mT_X8_heldSize_ok {l : Launch} {n : Nat} (hn : 1 ≤ n) : ∀ i e, mT_X8_heldSize i = some e → mV l (rmOf n) RX8 i e := by
  intro i e h
  unfold mT_X8_heldSize at h
  split at h
  · cases h; exact mvI (lv := 0) (ci := 7) (T := TX8) (N := 28) mw_X8_kindIn rfl (by omega) (by decide) (by decide +kernel) (gtm 1097 (by decide +kernel) (by decide +kernel)) rc_X8_kindIn ok_X8_kindIn
  · cases h; exact mvI (lv := 0) (ci := 7) (T := TX8) (N := 28) mw_X8_begins rfl (by omega) (by decide) (by decide +kernel) (gtm 1113 (by decide +kernel) (by decide +kernel)) rc_X8_begins ok_X8_begins
  · cases h
set_option maxRecDepth 100000 in
set_option maxHeartbeats 4000000 in
theorem ok_X8_heldSize : ∀ l n, 1 ≤ n → ∀ a σ Q, S_X8_heldSize a σ Q → AM l n yX8_heldSize cX8_heldSize 4 (some .int) a σ Q := by
  intro l n hn a σ Q hS
  unfold S_X8_heldSize at hS
  split at hS
  rotate_left
  · exact hS.elim
  rename_i c
  obtain ⟨c1, t1, k1, hq⟩ := hS
  refine am_ofF 1 cpX8 mT_X8_heldSize (plainFor_of_name (by decide +kernel)) (rfl) (Nat.le_of_ble_eq_true rfl) (cpX8_ok) (mT_X8_heldSize_ok hn) (fun K hK => ?_)
  refine hK (fun _ => false) 200 _ _ _ _ ?_
  simp only [↓wp, ↓stp, ilen, lnth, st1, st2, nolong, nohead, rnth, ↓gfX, ↓pfX, gfV, pfV, cpF, cpP, cndZ, ↓tgo, ↓tsw, ↓lsw, ↓ldI, ↓ldA, ↓ldL, ↓stI, ↓stA, ↓stL, ↓bin, ↓binD, ↓binL, ↓binDL, ↓una, ↓acV, ↓acK, ↓acpy, ↓inv, entL, nones, List.length_cons, List.length_nil, List.take, List.drop, List.reverse_cons, List.reverse_nil, List.nil_append, List.cons_append, Option.toList_some, Option.toList_none, Nat.reduceAdd, Nat.reduceSub, Nat.reduceLT, Nat.reduceEqDiff, Fin.isValue, aTL, aSZ, Int.toNat_natCast, hset_same, hset_o, hset_s, hset_row, ne_eq, Nat.reduceBEq, beq_self_eq_true, Fin.val_zero, Fin.val_one, fin0, fin1, fin2, fin3, Nat.le_refl, Nat.reduceLeDiff, Nat.zero_le, Int.reduceAdd, Int.reduceNeg, Int.reduceLE, Int.reduceLT, Int.reduceToNat, Int.reduceMul, Int.cast_ofNat_Int, Nat.reduceMod, ↓reduceIte, if_true, if_false, and_true, true_and, or_true, true_or, false_or, or_false, and_self, not_true_eq_false, not_false_eq_true, Bool.false_eq_true, reduceCtorEq, false_implies, true_implies, implies_true, and_false, false_and, dX8_heldSize_0, dX8_heldSize_1, dX8_heldSize_2, dX8_heldSize_5, dX8_heldSize_6, dX8_heldSize_9, dX8_heldSize_10, dX8_heldSize_13, dX8_heldSize_14, dX8_heldSize_15, dX8_heldSize_16, dX8_heldSize_19, dX8_heldSize_20, dX8_heldSize_22, dX8_heldSize_25, dX8_heldSize_26, dX8_heldSize_28, dX8_heldSize_31, dX8_heldSize_32, dX8_heldSize_34, dX8_heldSize_37, dX8_heldSize_38, dX8_heldSize_41, dX8_heldSize_42, dX8_heldSize_43, dX8_heldSize_44, dX8_heldSize_45, dX8_heldSize_46, dX8_heldSize_47, dX8_heldSize_48, dX8_heldSize_49, dX8_heldSize_51, dX8_heldSize_52, dX8_heldSize_53, dX8_heldSize_54, dX8_heldSize_57, dX8_heldSize_58, dX8_heldSize_59, dX8_heldSize_60, dX8_heldSize_63, dX8_heldSize_64, cpX8, mT_X8_heldSize, SHl_58, SHl_59, SHl_60, SHl_61, SHl_62, SHl_63, SHl_64, SHl_65, SHl_66, SHl_67, SHl_68, SHl_69, SHl_70, SHl_71, SHl_72, SHl_73, SHl_74, SHl_75, S_X8_begins, S_X8_kindIn, pgn, pg4]
  unfold pushL pushL pushL at hq
  (repeat' (first | apply And.intro | intro _)) <;> first | omega | (repeat (first | rw [if_pos (by omega)] at hq | rw [if_neg (by omega)] at hq)) <;> exact hq
/-- what is marked of a plain one, the trace -/
def mkA (kd v : Int) : Int := if kd = 2 then 2 * v else if kd = 3 then v - 1000 else v
def mkL (kd : Int) : List Int := if kd = 1 then [21, 20] else if kd = 2 then [24, 21, 20] else [22, 21, 20]
def S_X8_plainMark : MSpec := fun a σ Q => match a with
  | [.inr (.inl 58), .inl c] => okV (vM σ 64 0) ∧ (0 ≤ c ∧ c < σ 64 1) ∧ (0 ≤ σ 58 27 ∧ σ 58 27 < 10) ∧ ∀ τ, fdOk (pushL 58 27 75 σ (mkL (vM σ 64 0 1 c.toNat))) τ (vM σ 64 0) → Q (some (.inl (mkA (vM σ 64 0 1 c.toNat) (c + ((winV (vM σ 64 0) c.toNat : Int) - 15))))) τ
  | _ => False
theorem rc_X8_plainMark : ∀ a σ Q, S_X8_plainMark a σ Q → ∃ (p : Nat) (r : List AV), a = .inr (.inl p) :: r ∧ p < 76 ∧ (SH p).1 = 4 ∧ (SH p).2.1 = 7 := by
  intro a σ Q h
  unfold S_X8_plainMark at h
  split at h
  · exact ⟨58, _, rfl, by decide, rfl, rfl⟩
  · exact h.elim
def mT_X8_plainMark (i : Nat) : Option (Nat × Bool × MSpec) := match i with
  | 228 => some (2, true, S_X8_windowOf)
  | 260 => some (2, true, S_X8_kindIn)
  | 266 => some (2, true, S_X8_begins)
  | _ => none
theorem mT_X8_plainMark_ok {l : Launch} {n : Nat} (hn : 8 ≤ n) : ∀ i e, mT_X8_plainMark i = some e → mV l (rmOf n) RX8 i e := by
  intro i e h
  unfold mT_X8_plainMark at h
  split at h
  · cases h; exact mvI (lv := 7) (ci := 7) (T := TX8) (N := 28) mw_X8_windowOf rfl (by omega) (by decide) (by decide +kernel) (gtm 1032 (by decide +kernel) (by decide +kernel)) rc_X8_windowOf ok_X8_windowOf
  · cases h; exact mvI (lv := 0) (ci := 7) (T := TX8) (N := 28) mw_X8_kindIn rfl (by omega) (by decide) (by decide +kernel) (gtm 1097 (by decide +kernel) (by decide +kernel)) rc_X8_kindIn ok_X8_kindIn
  · cases h; exact mvI (lv := 0) (ci := 7) (T := TX8) (N := 28) mw_X8_begins rfl (by omega) (by decide) (by decide +kernel) (gtm 1113 (by decide +kernel) (by decide +kernel)) rc_X8_begins ok_X8_begins
  · cases h
set_option maxRecDepth 100000 in
set_option maxHeartbeats 4000000 in
theorem ok_X8_plainMark : ∀ l n, 8 ≤ n → ∀ a σ Q, S_X8_plainMark a σ Q → AM l n yX8_plainMark cX8_plainMark 4 (some .int) a σ Q := by
  intro l n hn a σ Q hS
  unfold S_X8_plainMark at hS
  split at hS
  rotate_left
  · exact hS.elim
  rename_i c
  obtain ⟨hV, c1, t1, hq⟩ := hS
  refine am_ofF 1 cpX8 mT_X8_plainMark (plainFor_of_name (by decide +kernel)) (rfl) (Nat.le_of_ble_eq_true rfl) (cpX8_ok) (mT_X8_plainMark_ok hn) (fun K hK => ?_)
  refine hK (fun _ => false) 200 _ _ _ _ ?_
  simp only [↓wp, ↓stp, ilen, lnth, st1, st2, nolong, nohead, rnth, ↓gfX, ↓pfX, gfV, pfV, cpF, cpP, cndZ, ↓tgo, ↓tsw, ↓lsw, ↓ldI, ↓ldA, ↓ldL, ↓stI, ↓stA, ↓stL, ↓bin, ↓binD, ↓binL, ↓binDL, ↓una, ↓acV, ↓acK, ↓acpy, ↓inv, entL, nones, List.length_cons, List.length_nil, List.take, List.drop, List.reverse_cons, List.reverse_nil, List.nil_append, List.cons_append, Option.toList_some, Option.toList_none, Nat.reduceAdd, Nat.reduceSub, Nat.reduceLT, Nat.reduceEqDiff, Fin.isValue, aTL, aSZ, Int.toNat_natCast, hset_same, hset_o, hset_s, hset_row, ne_eq, Nat.reduceBEq, beq_self_eq_true, Fin.val_zero, Fin.val_one, fin0, fin1, fin2, fin3, Nat.le_refl, Nat.reduceLeDiff, Nat.zero_le, Int.reduceAdd, Int.reduceNeg, Int.reduceLE, Int.reduceLT, Int.reduceToNat, Int.reduceMul, Int.cast_ofNat_Int, Nat.reduceMod, ↓reduceIte, if_true, if_false, and_true, true_and, or_true, true_or, false_or, or_false, and_self, not_true_eq_false, not_false_eq_true, Bool.false_eq_true, reduceCtorEq, false_implies, true_implies, implies_true, and_false, false_and, dX8_plainMark_0, dX8_plainMark_1, dX8_plainMark_2, dX8_plainMark_5, dX8_plainMark_6, dX8_plainMark_7, dX8_plainMark_8, dX8_plainMark_11, dX8_plainMark_12, dX8_plainMark_13, dX8_plainMark_14, dX8_plainMark_17, dX8_plainMark_19, dX8_plainMark_22, dX8_plainMark_24, dX8_plainMark_27, dX8_plainMark_28, dX8_plainMark_30, dX8_plainMark_33, dX8_plainMark_34, dX8_plainMark_36, dX8_plainMark_39, dX8_plainMark_40, dX8_plainMark_41, dX8_plainMark_42, dX8_plainMark_45, dX8_plainMark_46, dX8_plainMark_47, dX8_plainMark_48, dX8_plainMark_49, dX8_plainMark_52, dX8_plainMark_53, dX8_plainMark_54, dX8_plainMark_55, dX8_plainMark_58, dX8_plainMark_59, dX8_plainMark_60, dX8_plainMark_63, dX8_plainMark_64, dX8_plainMark_67, dX8_plainMark_68, dX8_plainMark_71, dX8_plainMark_72, cpX8, mT_X8_plainMark, SHl_58, SHl_59, SHl_60, SHl_61, SHl_62, SHl_63, SHl_64, SHl_65, SHl_66, SHl_67, SHl_68, SHl_69, SHl_70, SHl_71, SHl_72, SHl_73, SHl_74, SHl_75, S_X8_begins, S_X8_kindIn, S_X8_windowOf, pgn, pg4]
  obtain ⟨v0, v1, v2⟩ := vM_0 σ 64
  have o2 := hV.2.1
  obtain ⟨e1, e2, e3, e4, e5⟩ := vM_c (σ := σ) (w := 64) (c := c.toNat) (by omega)
  have hk := (hV.2.2.2.2.1 c.toNat (by omega)).1
  rw [show 5 * c.toNat + 3 = (3 + 5 * c).toNat by omega] at e1
  have hVp : ∀ σ' : HP, σ' 64 = σ 64 → vM σ' 64 0 = vM σ 64 0 := fun σ' h => vM_only h
  simp only [vM_only (σ := σ) pg4, vM_only (σ := σ) (pg4.trans pg4), vM_only (σ := σ) (pg4.trans (pg4.trans pg4)), ← e1]
  generalize hkd : vM σ 64 0 1 c.toNat = kd at *
  unfold mkL mkA at hq
  (repeat' (first | exact hV | apply And.intro | intro _)) <;> first | omega | (repeat (first | rw [if_pos (by omega)] at hq | rw [if_neg (by omega)] at hq)) <;> exact hq _ ‹_›
