/-! ===== prints, allWays ===== -/
def prP : Nat → Prop := fun q => q = 58 ∨ q = 70 ∨ q = 71 ∨ q = 72 ∨ q = 73 ∨ q = 74
def prOk (σ τ : HP) (V : HP) : Prop := only σ τ prP ∧ (∀ j, j ≠ 23 → τ 58 j = σ 58 j) ∧ τ 58 23 = bestV V ∧ (∀ c, c < ncV V → τ 72 c = winV V c) ∧ ∀ c j : Nat, c < ncV V → (j : Int) < V 5 c → τ 74 ((V 4 c).toNat + j) = prV V c j
def S_X8_prints : MSpec := fun a σ Q => match a with
  | [.inr (.inl 58), .inr (.inl w)] => isW w ∧ okV (vM σ w 0) ∧ 1 ≤ σ w 1 ∧ ∀ τ, prOk σ τ (vM σ w 0) → Q (some (.inl (signsV (vM σ w 0)))) τ
  | _ => False
theorem rc_X8_prints : ∀ a σ Q, S_X8_prints a σ Q → ∃ (p : Nat) (r : List AV), a = .inr (.inl p) :: r ∧ p < 76 ∧ (SH p).1 = 4 ∧ (SH p).2.1 = 7 := by
  intro a σ Q h
  unfold S_X8_prints at h
  split at h
  · exact ⟨58, _, rfl, by decide, rfl, rfl⟩
  · exact h.elim
def mT_X8_prints (i : Nat) : Option (Nat × Bool × MSpec) := match i with
  | 157 => some (1, false, S_X8_letterOf)
  | 166 => some (1, false, S_X8_alterOf)
  | 169 => some (2, false, S_X8_headOf)
  | 176 => some (4, false, S_X8_nameIn)
  | 202 => some (2, true, S_X8_finds)
  | _ => none
theorem mT_X8_prints_ok {l : Launch} {n : Nat} (hn : 7 ≤ n) : ∀ i e, mT_X8_prints i = some e → mV l (rmOf n) RX8 i e := by
  intro i e h
  unfold mT_X8_prints at h
  split at h
  · cases h; exact mvS (lv := 1) mw_X8_letterOf (by omega) (by decide) (by decide +kernel) (Or.inl (gtm 963 (by decide +kernel) (by decide +kernel))) ok_X8_letterOf
  · cases h; exact mvS (lv := 2) mw_X8_alterOf (by omega) (by decide) (by decide +kernel) (Or.inl (gtm 966 (by decide +kernel) (by decide +kernel))) ok_X8_alterOf
  · cases h; exact mvS (lv := 0) mw_X8_headOf (by omega) (by decide) (by decide +kernel) (Or.inl (gtm 986 (by decide +kernel) (by decide +kernel))) ok_X8_headOf
  · cases h; exact mvS (lv := 3) mw_X8_nameIn (by omega) (by decide) (by decide +kernel) (Or.inl (gtm 1022 (by decide +kernel) (by decide +kernel))) ok_X8_nameIn
  · cases h; exact mvI (lv := 6) (ci := 7) (T := TX8) (N := 28) mw_X8_finds rfl (by omega) (by decide) (by decide +kernel) (gtm 1001 (by decide +kernel) (by decide +kernel)) rc_X8_finds ok_X8_finds
  · cases h
theorem sgF_b (V : HP) (s0 : Int) (c : Nat) : ∀ j, s0 ≤ sgF V s0 c j ∧ sgF V s0 c j ≤ s0 + j
  | 0 => by unfold sgF; omega
  | j + 1 => by
    have := sgF_b V s0 c j
    unfold sgF
    split <;> omega
theorem sgC_b {V : HP} (hV : okV V) : ∀ c, c ≤ ncV V → 0 ≤ sgC V c ∧ sgC V c ≤ 4 * c
  | 0, _ => by unfold sgC; omega
  | c + 1, h => by
    have h1 := sgC_b hV c (by omega)
    have h2 := sgF_b V (sgC V c) c (V 5 c).toNat
    have h3 := hV.2.2.2.2.1 c (by unfold ncV at h; omega)
    unfold sgC
    omega
set_option maxRecDepth 100000 in
set_option maxHeartbeats 16000000 in
theorem ok_X8_prints : ∀ l n, 7 ≤ n → ∀ a σ Q, S_X8_prints a σ Q → AM l n yX8_prints cX8_prints 8 (some .int) a σ Q := by
  intro l n hn a σ Q hS
  unfold S_X8_prints at hS
  split at hS
  rotate_left
  · exact hS.elim
  rename_i w
  obtain ⟨hw, hV, n1, hq⟩ := hS
  obtain ⟨k0, k1⟩ := id hw
  have w58 : w ≠ 58 := isW_ne hw (by decide)
  have w70 : w ≠ 70 := isW_ne hw (by decide)
  have w71 : w ≠ 71 := isW_ne hw (by decide)
  have w72 : w ≠ 72 := isW_ne hw (by decide)
  have w73 : w ≠ 73 := isW_ne hw (by decide)
  have w74 : w ≠ 74 := isW_ne hw (by decide)
  obtain ⟨V, hVe⟩ : ∃ V, V = vM σ w 0 := ⟨_, rfl⟩
  rw [← hVe] at hV hq
  obtain ⟨v0, v1, v2⟩ := vM_0 σ w
  rw [← hVe] at v0 v1 v2
  obtain ⟨o1, o2, o3, -, oc, on⟩ := id hV
  have hnc : (ncV V : Int) = σ w 1 := by unfold ncV; rw [v1]; omega
  refine am_ofF 1 cpX8 mT_X8_prints (plainFor_of_name (by decide +kernel)) (rfl) (Nat.le_of_ble_eq_true rfl) (cpX8_ok) (mT_X8_prints_ok hn) (fun K hK => ?_)
  have loop : ∀ (d c : Nat), c + d = ncV V → ∀ τ, only σ τ prP → (∀ j, j ≠ 23 → τ 58 j = σ 58 j) → τ 58 23 = bestV V → (∀ x, x < ncV V → τ 72 x = winV V x) → (0 < c → ∀ t, t < 7 → τ 73 t = frC V c t) → (∀ c' j' : Nat, c' < c → (j' : Int) < V 5 c' → τ 74 ((V 4 c').toNat + j') = prV V c' j') → ∀ u4 u5 u6 u7 : Option AV, K 9 [some (.inr (.inl 58)), some (.inr (.inl w)), some (.inl (sgC V c)), some (.inl (c : Int)), u4, u5, u6, u7] [] τ := by
    intro d
    induction d with
    | zero =>
      intro c hc τ ho hj hb hwn hf hdone u4 u5 u6 u7
      have hw0 : τ w = σ w := ho w (by unfold prP; omega)
      refine hK (fun q => q == 9 || q == 26 || q == 65) 100 _ _ _ _ ?_
      simp only [↓wp, ↓stp, ilen, lnth, st1, st2, nolong, nohead, rnth, ↓gfX, ↓pfX, gfV, pfV, cpF, cpP, cndZ, ↓tgo, ↓tsw, ↓lsw, ↓ldI, ↓ldA, ↓ldL, ↓stI, ↓stA, ↓stL, ↓bin, ↓binD, ↓binL, ↓binDL, ↓una, ↓acV, ↓acK, ↓acpy, ↓inv, entL, nones, List.length_cons, List.length_nil, List.take, List.drop, List.reverse_cons, List.reverse_nil, List.nil_append, List.cons_append, Option.toList_some, Option.toList_none, Nat.reduceAdd, Nat.reduceSub, Nat.reduceLT, Nat.reduceEqDiff, Fin.isValue, aTL, aSZ, Int.toNat_natCast, hset_same, hset_o, hset_s, hset_row, ne_eq, Nat.reduceBEq, beq_self_eq_true, Fin.val_zero, Fin.val_one, fin0, fin1, fin2, fin3, Nat.le_refl, Nat.reduceLeDiff, Nat.zero_le, Int.reduceAdd, Int.reduceNeg, Int.reduceLE, Int.reduceLT, Int.reduceToNat, Int.reduceMul, Int.cast_ofNat_Int, Nat.reduceMod, ↓reduceIte, if_true, if_false, and_true, true_and, or_true, true_or, false_or, or_false, and_self, not_true_eq_false, not_false_eq_true, Bool.false_eq_true, reduceCtorEq, false_implies, true_implies, implies_true, and_false, false_and, dX8_prints_0, dX8_prints_1, dX8_prints_2, dX8_prints_5, dX8_prints_6, dX8_prints_7, dX8_prints_8, dX8_prints_9, dX8_prints_10, dX8_prints_11, dX8_prints_12, dX8_prints_13, dX8_prints_16, dX8_prints_17, dX8_prints_18, dX8_prints_19, dX8_prints_20, dX8_prints_21, dX8_prints_23, dX8_prints_24, dX8_prints_26, dX8_prints_28, dX8_prints_30, dX8_prints_33, dX8_prints_34, dX8_prints_36, dX8_prints_37, dX8_prints_38, dX8_prints_39, dX8_prints_40, dX8_prints_43, dX8_prints_44, dX8_prints_47, dX8_prints_49, dX8_prints_50, dX8_prints_52, dX8_prints_55, dX8_prints_56, dX8_prints_59, dX8_prints_62, dX8_prints_63, dX8_prints_65, dX8_prints_67, dX8_prints_68, dX8_prints_70, dX8_prints_71, dX8_prints_72, dX8_prints_73, dX8_prints_76, dX8_prints_77, dX8_prints_78, dX8_prints_80, dX8_prints_82, dX8_prints_83, dX8_prints_86, dX8_prints_87, dX8_prints_88, dX8_prints_89, dX8_prints_92, dX8_prints_94, dX8_prints_96, dX8_prints_99, dX8_prints_100, dX8_prints_103, dX8_prints_105, dX8_prints_108, dX8_prints_109, dX8_prints_112, dX8_prints_113, dX8_prints_116, dX8_prints_117, dX8_prints_119, dX8_prints_120, dX8_prints_123, dX8_prints_124, dX8_prints_126, dX8_prints_127, dX8_prints_128, dX8_prints_129, dX8_prints_131, dX8_prints_132, dX8_prints_134, dX8_prints_137, dX8_prints_139, dX8_prints_142, dX8_prints_145, dX8_prints_147, dX8_prints_148, dX8_prints_149, dX8_prints_152, dX8_prints_154, dX8_prints_157, dX8_prints_159, dX8_prints_162, dX8_prints_163, dX8_prints_164, dX8_prints_166, dX8_prints_169, dX8_prints_170, dX8_prints_173, dX8_prints_174, dX8_prints_175, dX8_prints_176, dX8_prints_179, dX8_prints_182, dX8_prints_185, dX8_prints_188, dX8_prints_189, cpX8, mT_X8_prints, SHl_58, SHl_59, SHl_60, SHl_61, SHl_62, SHl_63, SHl_64, SHl_65, SHl_66, SHl_67, SHl_68, SHl_69, SHl_70, SHl_71, SHl_72, SHl_73, SHl_74, SHl_75, S_X8_alterOf, S_X8_finds, S_X8_headOf, S_X8_letterOf, S_X8_nameIn, k0, Bool.or_true, Bool.or_false, Bool.true_or, Bool.false_or]
      rw [hw0]
      have hq' := hq τ ⟨ho, hj, hb, hwn, fun c' j' h1 h2 => hdone c' j' (by omega) h2⟩
      unfold signsV at hq'
      rw [show ncV V = c by omega] at hq'
      exact ⟨⟨by omega, by omega⟩, ⟨by omega, by omega⟩, fun _ => hq', fun q => by omega⟩
    | succ d ih =>
      intro c hc τ ho hj hb hwn hf hdone u4 u5 u6 u7
      have hc1 : c < ncV V := by omega
      obtain ⟨a1, a2, a3, a4, a5, a6, a7, a8, a9⟩ := oc c (by omega)
      obtain ⟨e1, e2, e3, e4, e5⟩ := vM_c (σ := σ) (w := w) (c := c) (by omega)
      rw [← hVe] at e1 e2 e3 e4 e5
      have sgc := sgC_b hV c (by omega)
      have wl := winV_lt hV (by omega) c hc1
      -- the notes of a chord
      have nloop : ∀ (f j : Nat), j + f = (V 5 c).toNat → ∀ τ, only σ τ prP → (∀ j, j ≠ 23 → τ 58 j = σ 58 j) → τ 58 23 = bestV V → (∀ x, x < ncV V → τ 72 x = winV V x) → (∀ t, t < 7 → τ 73 t = fcV V c j t) → (∀ c' j' : Nat, c' < c ∨ (c' = c ∧ j' < j) → (j' : Int) < V 5 c' → τ 74 ((V 4 c').toNat + j') = prV V c' j') → ∀ u6 u7 : Option AV, K 65 [some (.inr (.inl 58)), some (.inr (.inl w)), some (.inl (sgV V c j)), some (.inl (c : Int)), some (.inl (3 + 5 * (c : Int))), some (.inl (j : Int)), u6, u7] [] τ := by
        intro f
        induction f with
        | zero =>
          intro j hj5 τ ho hj hb hwn hf hdone u6 u7
          have hw0 : τ w = σ w := ho w (by unfold prP; omega)
          have hx := ih (c + 1) (by omega) τ ho hj hb hwn (fun _ t ht => by
            rw [hf t ht]
            show gF V (frC V c) c j t = gF V (frC V c) c (V 5 c).toNat t
            rw [show j = (V 5 c).toNat by omega]) (fun c' j' h1 h2 => hdone c' j' (by
              rcases Nat.lt_or_ge c' c with h | h
              · exact Or.inl h
              · have e : c' = c := by omega
                subst e
                exact Or.inr ⟨rfl, by omega⟩) h2) (some (.inl (3 + 5 * (c : Int)))) (some (.inl (j : Int))) u6 u7
          have e0 : sgV V c j = sgC V (c + 1) := by
            show sgF V (sgC V c) c j = sgF V (sgC V c) c (V 5 c).toNat
            rw [show j = (V 5 c).toNat by omega]
          rw [e0]
          refine hK (fun q => q == 9 || q == 26 || q == 65) 100 _ _ _ _ ?_
          simp only [↓wp, ↓stp, ilen, lnth, st1, st2, nolong, nohead, rnth, ↓gfX, ↓pfX, gfV, pfV, cpF, cpP, cndZ, ↓tgo, ↓tsw, ↓lsw, ↓ldI, ↓ldA, ↓ldL, ↓stI, ↓stA, ↓stL, ↓bin, ↓binD, ↓binL, ↓binDL, ↓una, ↓acV, ↓acK, ↓acpy, ↓inv, entL, nones, List.length_cons, List.length_nil, List.take, List.drop, List.reverse_cons, List.reverse_nil, List.nil_append, List.cons_append, Option.toList_some, Option.toList_none, Nat.reduceAdd, Nat.reduceSub, Nat.reduceLT, Nat.reduceEqDiff, Fin.isValue, aTL, aSZ, Int.toNat_natCast, hset_same, hset_o, hset_s, hset_row, ne_eq, Nat.reduceBEq, beq_self_eq_true, Fin.val_zero, Fin.val_one, fin0, fin1, fin2, fin3, Nat.le_refl, Nat.reduceLeDiff, Nat.zero_le, Int.reduceAdd, Int.reduceNeg, Int.reduceLE, Int.reduceLT, Int.reduceToNat, Int.reduceMul, Int.cast_ofNat_Int, Nat.reduceMod, ↓reduceIte, if_true, if_false, and_true, true_and, or_true, true_or, false_or, or_false, and_self, not_true_eq_false, not_false_eq_true, Bool.false_eq_true, reduceCtorEq, false_implies, true_implies, implies_true, and_false, false_and, dX8_prints_0, dX8_prints_1, dX8_prints_2, dX8_prints_5, dX8_prints_6, dX8_prints_7, dX8_prints_8, dX8_prints_9, dX8_prints_10, dX8_prints_11, dX8_prints_12, dX8_prints_13, dX8_prints_16, dX8_prints_17, dX8_prints_18, dX8_prints_19, dX8_prints_20, dX8_prints_21, dX8_prints_23, dX8_prints_24, dX8_prints_26, dX8_prints_28, dX8_prints_30, dX8_prints_33, dX8_prints_34, dX8_prints_36, dX8_prints_37, dX8_prints_38, dX8_prints_39, dX8_prints_40, dX8_prints_43, dX8_prints_44, dX8_prints_47, dX8_prints_49, dX8_prints_50, dX8_prints_52, dX8_prints_55, dX8_prints_56, dX8_prints_59, dX8_prints_62, dX8_prints_63, dX8_prints_65, dX8_prints_67, dX8_prints_68, dX8_prints_70, dX8_prints_71, dX8_prints_72, dX8_prints_73, dX8_prints_76, dX8_prints_77, dX8_prints_78, dX8_prints_80, dX8_prints_82, dX8_prints_83, dX8_prints_86, dX8_prints_87, dX8_prints_88, dX8_prints_89, dX8_prints_92, dX8_prints_94, dX8_prints_96, dX8_prints_99, dX8_prints_100, dX8_prints_103, dX8_prints_105, dX8_prints_108, dX8_prints_109, dX8_prints_112, dX8_prints_113, dX8_prints_116, dX8_prints_117, dX8_prints_119, dX8_prints_120, dX8_prints_123, dX8_prints_124, dX8_prints_126, dX8_prints_127, dX8_prints_128, dX8_prints_129, dX8_prints_131, dX8_prints_132, dX8_prints_134, dX8_prints_137, dX8_prints_139, dX8_prints_142, dX8_prints_145, dX8_prints_147, dX8_prints_148, dX8_prints_149, dX8_prints_152, dX8_prints_154, dX8_prints_157, dX8_prints_159, dX8_prints_162, dX8_prints_163, dX8_prints_164, dX8_prints_166, dX8_prints_169, dX8_prints_170, dX8_prints_173, dX8_prints_174, dX8_prints_175, dX8_prints_176, dX8_prints_179, dX8_prints_182, dX8_prints_185, dX8_prints_188, dX8_prints_189, cpX8, mT_X8_prints, SHl_58, SHl_59, SHl_60, SHl_61, SHl_62, SHl_63, SHl_64, SHl_65, SHl_66, SHl_67, SHl_68, SHl_69, SHl_70, SHl_71, SHl_72, SHl_73, SHl_74, SHl_75, S_X8_alterOf, S_X8_finds, S_X8_headOf, S_X8_letterOf, S_X8_nameIn, k0, ix2, Bool.or_true, Bool.or_false, Bool.true_or, Bool.false_or]
          rw [hw0, ← e5]
          exact ⟨by omega, by omega, ⟨by omega, by omega⟩, ⟨by omega, by omega⟩, fun _ => hx, fun q => by omega⟩
        | succ f ihf =>
          intro j hj5 τ ho hj hb hwn hf hdone u6 u7
          have hw0 : τ w = σ w := ho w (by unfold prP; omega)
          have hkn := on ((V 4 c).toNat + j) (by omega)
          have ek : V 6 ((V 4 c).toNat + j) = σ w (53 + ((V 4 c).toNat + j)) := by rw [hVe]; exact vM_n (by rw [← hVe]; omega)
          have plb := plV_b hV (c := c) (j := j) hc1
          have hidx : (53 + V 4 c + (j : Int)).toNat = 53 + ((V 4 c).toNat + j) := by omega
          have hid2 : (V 4 c + (j : Int)).toNat = (V 4 c).toNat + j := by omega
          have plE : namZ (-15 + (winV V c : Int)) (V 6 ((V 4 c).toNat + j)) = plV V c j := by
            rw [show -15 + (winV V c : Int) = (winV V c : Int) - 15 by omega]
            rfl
          have hlz := letZ_b (plV V c j)
          have haz := altZ_b plb
          have fcb := fcV_b hV hc1 j (letZ (plV V c j)).toNat
          have sgb := sgF_b V (sgC V c) c j
          have sgb : sgC V c ≤ sgV V c j ∧ sgV V c j ≤ sgC V c + j := sgb
          have hdist : ∀ c' j' : Nat, c' < c ∨ (c' = c ∧ j' < j) → (j' : Int) < V 5 c' → (V 4 c').toNat + j' ≠ (V 4 c).toNat + j := by
            intro c' j' h3 h2
            rcases h3 with h3 | ⟨rfl, h3⟩
            · have := V4_mono hV (c - c') c' (by omega) (by omega)
              rw [show c' + (c - c') = c by omega] at this
              have := (oc c' (by omega)).2.2.2.1
              omega
            · omega
          have hx := ihf (j + 1) (by omega) (hset (hset τ 74 ((V 4 c).toNat + j) (prV V c j)) 73 (letZ (plV V c j)).toNat (altZ (plV V c j))) (only_set (only_set ho (by unfold prP; omega)) (by unfold prP; omega)) (fun j hjj => by rw [hset_o (by decide), hset_o (by decide)]; exact hj j hjj) (by rw [hset_o (by decide), hset_o (by decide)]; exact hb) (fun x hx => by rw [hset_o (by decide), hset_o (by decide)]; exact hwn x hx) (fun t ht => by
            rw [fcV_s]
            by_cases e : (t : Int) = letZ (plV V c j)
            · rw [if_pos e, show t = (letZ (plV V c j)).toNat by omega, hset_same]
            · rw [if_neg e, hset_s (by omega), hset_o (by decide)]
              exact hf t ht) (fun c' j' h1 h2 => by
            rw [hset_o (by decide)]
            by_cases e : c' = c ∧ j' = j
            · obtain ⟨rfl, rfl⟩ := e
              exact hset_same
            · have h4 : c' < c ∨ (c' = c ∧ j' < j) := by omega
              rw [hset_s (hdist c' j' h4 h2)]
              exact hdone c' j' h4 h2)
          rw [sgV_s] at hx
          unfold prV at hx
          refine hK (fun q => q == 9 || q == 26 || q == 65) 100 _ _ _ _ ?_
          simp only [↓wp, ↓stp, ilen, lnth, st1, st2, nolong, nohead, rnth, ↓gfX, ↓pfX, gfV, pfV, cpF, cpP, cndZ, ↓tgo, ↓tsw, ↓lsw, ↓ldI, ↓ldA, ↓ldL, ↓stI, ↓stA, ↓stL, ↓bin, ↓binD, ↓binL, ↓binDL, ↓una, ↓acV, ↓acK, ↓acpy, ↓inv, entL, nones, List.length_cons, List.length_nil, List.take, List.drop, List.reverse_cons, List.reverse_nil, List.nil_append, List.cons_append, Option.toList_some, Option.toList_none, Nat.reduceAdd, Nat.reduceSub, Nat.reduceLT, Nat.reduceEqDiff, Fin.isValue, aTL, aSZ, Int.toNat_natCast, hset_same, hset_o, hset_s, hset_row, ne_eq, Nat.reduceBEq, beq_self_eq_true, Fin.val_zero, Fin.val_one, fin0, fin1, fin2, fin3, Nat.le_refl, Nat.reduceLeDiff, Nat.zero_le, Int.reduceAdd, Int.reduceNeg, Int.reduceLE, Int.reduceLT, Int.reduceToNat, Int.reduceMul, Int.cast_ofNat_Int, Nat.reduceMod, ↓reduceIte, if_true, if_false, and_true, true_and, or_true, true_or, false_or, or_false, and_self, not_true_eq_false, not_false_eq_true, Bool.false_eq_true, reduceCtorEq, false_implies, true_implies, implies_true, and_false, false_and, dX8_prints_0, dX8_prints_1, dX8_prints_2, dX8_prints_5, dX8_prints_6, dX8_prints_7, dX8_prints_8, dX8_prints_9, dX8_prints_10, dX8_prints_11, dX8_prints_12, dX8_prints_13, dX8_prints_16, dX8_prints_17, dX8_prints_18, dX8_prints_19, dX8_prints_20, dX8_prints_21, dX8_prints_23, dX8_prints_24, dX8_prints_26, dX8_prints_28, dX8_prints_30, dX8_prints_33, dX8_prints_34, dX8_prints_36, dX8_prints_37, dX8_prints_38, dX8_prints_39, dX8_prints_40, dX8_prints_43, dX8_prints_44, dX8_prints_47, dX8_prints_49, dX8_prints_50, dX8_prints_52, dX8_prints_55, dX8_prints_56, dX8_prints_59, dX8_prints_62, dX8_prints_63, dX8_prints_65, dX8_prints_67, dX8_prints_68, dX8_prints_70, dX8_prints_71, dX8_prints_72, dX8_prints_73, dX8_prints_76, dX8_prints_77, dX8_prints_78, dX8_prints_80, dX8_prints_82, dX8_prints_83, dX8_prints_86, dX8_prints_87, dX8_prints_88, dX8_prints_89, dX8_prints_92, dX8_prints_94, dX8_prints_96, dX8_prints_99, dX8_prints_100, dX8_prints_103, dX8_prints_105, dX8_prints_108, dX8_prints_109, dX8_prints_112, dX8_prints_113, dX8_prints_116, dX8_prints_117, dX8_prints_119, dX8_prints_120, dX8_prints_123, dX8_prints_124, dX8_prints_126, dX8_prints_127, dX8_prints_128, dX8_prints_129, dX8_prints_131, dX8_prints_132, dX8_prints_134, dX8_prints_137, dX8_prints_139, dX8_prints_142, dX8_prints_145, dX8_prints_147, dX8_prints_148, dX8_prints_149, dX8_prints_152, dX8_prints_154, dX8_prints_157, dX8_prints_159, dX8_prints_162, dX8_prints_163, dX8_prints_164, dX8_prints_166, dX8_prints_169, dX8_prints_170, dX8_prints_173, dX8_prints_174, dX8_prints_175, dX8_prints_176, dX8_prints_179, dX8_prints_182, dX8_prints_185, dX8_prints_188, dX8_prints_189, cpX8, mT_X8_prints, SHl_58, SHl_59, SHl_60, SHl_61, SHl_62, SHl_63, SHl_64, SHl_65, SHl_66, SHl_67, SHl_68, SHl_69, SHl_70, SHl_71, SHl_72, SHl_73, SHl_74, SHl_75, S_X8_alterOf, S_X8_finds, S_X8_headOf, S_X8_letterOf, S_X8_nameIn, k0, ix1, ix2, Bool.or_true, Bool.or_false, Bool.true_or, Bool.false_or]
          rw [hw0, ← e5, ← e4, hwn c hc1, hidx, ← ek, plE, hid2, hf _ (by omega)]
          by_cases heq : fcV V c j (letZ (plV V c j)).toNat = altZ (plV V c j)
          · rw [if_pos heq, if_pos heq] at hx
            (repeat' (first | apply And.intro | intro _)) <;> first | omega | exact hw | exact hx _ _
          · rw [if_neg heq, if_neg heq] at hx
            (repeat' (first | apply And.intro | intro _)) <;> first | omega | exact hw | exact hx _ _
      -- the letters
      have lloop : ∀ (f t : Nat), t + f = 7 → V 2 c = 1 → ∀ τ, only σ τ prP → (∀ j, j ≠ 23 → τ 58 j = σ 58 j) → τ 58 23 = bestV V → (∀ x, x < ncV V → τ 72 x = winV V x) → (∀ x, x < t → τ 73 x = headV (V 0 0) x) → (∀ c' j' : Nat, c' < c → (j' : Int) < V 5 c' → τ 74 ((V 4 c').toNat + j') = prV V c' j') → ∀ u6 u7 : Option AV, K 26 [some (.inr (.inl 58)), some (.inr (.inl w)), some (.inl (sgC V c)), some (.inl (c : Int)), some (.inl (3 + 5 * (c : Int))), some (.inl (t : Int)), u6, u7] [] τ := by
        intro f
        induction f with
        | zero =>
          intro t ht hbar τ ho hj hb hwn hf hdone u6 u7
          have hx := nloop (V 5 c).toNat 0 (by omega) τ ho hj hb hwn (fun x hx => by
            rw [hf x (by omega)]
            show _ = gF V (frC V c) c 0 x
            unfold gF
            rw [if_pos hbar]) (fun c' j' h1 h2 => hdone c' j' (by omega) h2) u6 u7
          refine hK (fun q => q == 9 || q == 26 || q == 65) 100 _ _ _ _ ?_
          simp only [↓wp, ↓stp, ilen, lnth, st1, st2, nolong, nohead, rnth, ↓gfX, ↓pfX, gfV, pfV, cpF, cpP, cndZ, ↓tgo, ↓tsw, ↓lsw, ↓ldI, ↓ldA, ↓ldL, ↓stI, ↓stA, ↓stL, ↓bin, ↓binD, ↓binL, ↓binDL, ↓una, ↓acV, ↓acK, ↓acpy, ↓inv, entL, nones, List.length_cons, List.length_nil, List.take, List.drop, List.reverse_cons, List.reverse_nil, List.nil_append, List.cons_append, Option.toList_some, Option.toList_none, Nat.reduceAdd, Nat.reduceSub, Nat.reduceLT, Nat.reduceEqDiff, Fin.isValue, aTL, aSZ, Int.toNat_natCast, hset_same, hset_o, hset_s, hset_row, ne_eq, Nat.reduceBEq, beq_self_eq_true, Fin.val_zero, Fin.val_one, fin0, fin1, fin2, fin3, Nat.le_refl, Nat.reduceLeDiff, Nat.zero_le, Int.reduceAdd, Int.reduceNeg, Int.reduceLE, Int.reduceLT, Int.reduceToNat, Int.reduceMul, Int.cast_ofNat_Int, Nat.reduceMod, ↓reduceIte, if_true, if_false, and_true, true_and, or_true, true_or, false_or, or_false, and_self, not_true_eq_false, not_false_eq_true, Bool.false_eq_true, reduceCtorEq, false_implies, true_implies, implies_true, and_false, false_and, dX8_prints_0, dX8_prints_1, dX8_prints_2, dX8_prints_5, dX8_prints_6, dX8_prints_7, dX8_prints_8, dX8_prints_9, dX8_prints_10, dX8_prints_11, dX8_prints_12, dX8_prints_13, dX8_prints_16, dX8_prints_17, dX8_prints_18, dX8_prints_19, dX8_prints_20, dX8_prints_21, dX8_prints_23, dX8_prints_24, dX8_prints_26, dX8_prints_28, dX8_prints_30, dX8_prints_33, dX8_prints_34, dX8_prints_36, dX8_prints_37, dX8_prints_38, dX8_prints_39, dX8_prints_40, dX8_prints_43, dX8_prints_44, dX8_prints_47, dX8_prints_49, dX8_prints_50, dX8_prints_52, dX8_prints_55, dX8_prints_56, dX8_prints_59, dX8_prints_62, dX8_prints_63, dX8_prints_65, dX8_prints_67, dX8_prints_68, dX8_prints_70, dX8_prints_71, dX8_prints_72, dX8_prints_73, dX8_prints_76, dX8_prints_77, dX8_prints_78, dX8_prints_80, dX8_prints_82, dX8_prints_83, dX8_prints_86, dX8_prints_87, dX8_prints_88, dX8_prints_89, dX8_prints_92, dX8_prints_94, dX8_prints_96, dX8_prints_99, dX8_prints_100, dX8_prints_103, dX8_prints_105, dX8_prints_108, dX8_prints_109, dX8_prints_112, dX8_prints_113, dX8_prints_116, dX8_prints_117, dX8_prints_119, dX8_prints_120, dX8_prints_123, dX8_prints_124, dX8_prints_126, dX8_prints_127, dX8_prints_128, dX8_prints_129, dX8_prints_131, dX8_prints_132, dX8_prints_134, dX8_prints_137, dX8_prints_139, dX8_prints_142, dX8_prints_145, dX8_prints_147, dX8_prints_148, dX8_prints_149, dX8_prints_152, dX8_prints_154, dX8_prints_157, dX8_prints_159, dX8_prints_162, dX8_prints_163, dX8_prints_164, dX8_prints_166, dX8_prints_169, dX8_prints_170, dX8_prints_173, dX8_prints_174, dX8_prints_175, dX8_prints_176, dX8_prints_179, dX8_prints_182, dX8_prints_185, dX8_prints_188, dX8_prints_189, cpX8, mT_X8_prints, SHl_58, SHl_59, SHl_60, SHl_61, SHl_62, SHl_63, SHl_64, SHl_65, SHl_66, SHl_67, SHl_68, SHl_69, SHl_70, SHl_71, SHl_72, SHl_73, SHl_74, SHl_75, S_X8_alterOf, S_X8_finds, S_X8_headOf, S_X8_letterOf, S_X8_nameIn, k0, ix2, ix3, Bool.or_true, Bool.or_false, Bool.true_or, Bool.false_or]
          exact ⟨⟨by omega, by omega⟩, ⟨by omega, by omega⟩, fun _ => hx, fun q => by omega⟩
        | succ f ihf =>
          intro t ht hbar τ ho hj hb hwn hf hdone u6 u7
          have hw0 : τ w = σ w := ho w (by unfold prP; omega)
          have hx := ihf (t + 1) (by omega) hbar (hset τ 73 t (headV (V 0 0) t)) (only_set ho (by unfold prP; omega)) (fun j hjj => by rw [hset_o (by decide)]; exact hj j hjj) (by rw [hset_o (by decide)]; exact hb) (fun x hx => by rw [hset_o (by decide)]; exact hwn x hx) (fun x hx => by
            by_cases e : x = t
            · subst e; exact hset_same
            · rw [hset_s e]; exact hf x (by omega)) (fun c' j' h1 h2 => by rw [hset_o (by decide)]; exact hdone c' j' h1 h2) u6 u7
          refine hK (fun q => q == 9 || q == 26 || q == 65) 100 _ _ _ _ ?_
          simp only [↓wp, ↓stp, ilen, lnth, st1, st2, nolong, nohead, rnth, ↓gfX, ↓pfX, gfV, pfV, cpF, cpP, cndZ, ↓tgo, ↓tsw, ↓lsw, ↓ldI, ↓ldA, ↓ldL, ↓stI, ↓stA, ↓stL, ↓bin, ↓binD, ↓binL, ↓binDL, ↓una, ↓acV, ↓acK, ↓acpy, ↓inv, entL, nones, List.length_cons, List.length_nil, List.take, List.drop, List.reverse_cons, List.reverse_nil, List.nil_append, List.cons_append, Option.toList_some, Option.toList_none, Nat.reduceAdd, Nat.reduceSub, Nat.reduceLT, Nat.reduceEqDiff, Fin.isValue, aTL, aSZ, Int.toNat_natCast, hset_same, hset_o, hset_s, hset_row, ne_eq, Nat.reduceBEq, beq_self_eq_true, Fin.val_zero, Fin.val_one, fin0, fin1, fin2, fin3, Nat.le_refl, Nat.reduceLeDiff, Nat.zero_le, Int.reduceAdd, Int.reduceNeg, Int.reduceLE, Int.reduceLT, Int.reduceToNat, Int.reduceMul, Int.cast_ofNat_Int, Nat.reduceMod, ↓reduceIte, if_true, if_false, and_true, true_and, or_true, true_or, false_or, or_false, and_self, not_true_eq_false, not_false_eq_true, Bool.false_eq_true, reduceCtorEq, false_implies, true_implies, implies_true, and_false, false_and, dX8_prints_0, dX8_prints_1, dX8_prints_2, dX8_prints_5, dX8_prints_6, dX8_prints_7, dX8_prints_8, dX8_prints_9, dX8_prints_10, dX8_prints_11, dX8_prints_12, dX8_prints_13, dX8_prints_16, dX8_prints_17, dX8_prints_18, dX8_prints_19, dX8_prints_20, dX8_prints_21, dX8_prints_23, dX8_prints_24, dX8_prints_26, dX8_prints_28, dX8_prints_30, dX8_prints_33, dX8_prints_34, dX8_prints_36, dX8_prints_37, dX8_prints_38, dX8_prints_39, dX8_prints_40, dX8_prints_43, dX8_prints_44, dX8_prints_47, dX8_prints_49, dX8_prints_50, dX8_prints_52, dX8_prints_55, dX8_prints_56, dX8_prints_59, dX8_prints_62, dX8_prints_63, dX8_prints_65, dX8_prints_67, dX8_prints_68, dX8_prints_70, dX8_prints_71, dX8_prints_72, dX8_prints_73, dX8_prints_76, dX8_prints_77, dX8_prints_78, dX8_prints_80, dX8_prints_82, dX8_prints_83, dX8_prints_86, dX8_prints_87, dX8_prints_88, dX8_prints_89, dX8_prints_92, dX8_prints_94, dX8_prints_96, dX8_prints_99, dX8_prints_100, dX8_prints_103, dX8_prints_105, dX8_prints_108, dX8_prints_109, dX8_prints_112, dX8_prints_113, dX8_prints_116, dX8_prints_117, dX8_prints_119, dX8_prints_120, dX8_prints_123, dX8_prints_124, dX8_prints_126, dX8_prints_127, dX8_prints_128, dX8_prints_129, dX8_prints_131, dX8_prints_132, dX8_prints_134, dX8_prints_137, dX8_prints_139, dX8_prints_142, dX8_prints_145, dX8_prints_147, dX8_prints_148, dX8_prints_149, dX8_prints_152, dX8_prints_154, dX8_prints_157, dX8_prints_159, dX8_prints_162, dX8_prints_163, dX8_prints_164, dX8_prints_166, dX8_prints_169, dX8_prints_170, dX8_prints_173, dX8_prints_174, dX8_prints_175, dX8_prints_176, dX8_prints_179, dX8_prints_182, dX8_prints_185, dX8_prints_188, dX8_prints_189, cpX8, mT_X8_prints, SHl_58, SHl_59, SHl_60, SHl_61, SHl_62, SHl_63, SHl_64, SHl_65, SHl_66, SHl_67, SHl_68, SHl_69, SHl_70, SHl_71, SHl_72, SHl_73, SHl_74, SHl_75, S_X8_alterOf, S_X8_finds, S_X8_headOf, S_X8_letterOf, S_X8_nameIn, k0, ix2, ix3, Bool.or_true, Bool.or_false, Bool.true_or, Bool.false_or]
          rw [hw0, ← e2, ← v0]
          (repeat' (first | apply And.intro | intro _)) <;> first | omega | exact hw | exact hx
      have hw0 : τ w = σ w := ho w (by unfold prP; omega)
      by_cases hbar : V 2 c = 1
      · have hx := lloop 7 0 (by omega) hbar τ ho hj hb hwn (fun x hx => by omega) hdone u6 u7
        refine hK (fun q => q == 9 || q == 26 || q == 65) 100 _ _ _ _ ?_
        simp only [↓wp, ↓stp, ilen, lnth, st1, st2, nolong, nohead, rnth, ↓gfX, ↓pfX, gfV, pfV, cpF, cpP, cndZ, ↓tgo, ↓tsw, ↓lsw, ↓ldI, ↓ldA, ↓ldL, ↓stI, ↓stA, ↓stL, ↓bin, ↓binD, ↓binL, ↓binDL, ↓una, ↓acV, ↓acK, ↓acpy, ↓inv, entL, nones, List.length_cons, List.length_nil, List.take, List.drop, List.reverse_cons, List.reverse_nil, List.nil_append, List.cons_append, Option.toList_some, Option.toList_none, Nat.reduceAdd, Nat.reduceSub, Nat.reduceLT, Nat.reduceEqDiff, Fin.isValue, aTL, aSZ, Int.toNat_natCast, hset_same, hset_o, hset_s, hset_row, ne_eq, Nat.reduceBEq, beq_self_eq_true, Fin.val_zero, Fin.val_one, fin0, fin1, fin2, fin3, Nat.le_refl, Nat.reduceLeDiff, Nat.zero_le, Int.reduceAdd, Int.reduceNeg, Int.reduceLE, Int.reduceLT, Int.reduceToNat, Int.reduceMul, Int.cast_ofNat_Int, Nat.reduceMod, ↓reduceIte, if_true, if_false, and_true, true_and, or_true, true_or, false_or, or_false, and_self, not_true_eq_false, not_false_eq_true, Bool.false_eq_true, reduceCtorEq, false_implies, true_implies, implies_true, and_false, false_and, dX8_prints_0, dX8_prints_1, dX8_prints_2, dX8_prints_5, dX8_prints_6, dX8_prints_7, dX8_prints_8, dX8_prints_9, dX8_prints_10, dX8_prints_11, dX8_prints_12, dX8_prints_13, dX8_prints_16, dX8_prints_17, dX8_prints_18, dX8_prints_19, dX8_prints_20, dX8_prints_21, dX8_prints_23, dX8_prints_24, dX8_prints_26, dX8_prints_28, dX8_prints_30, dX8_prints_33, dX8_prints_34, dX8_prints_36, dX8_prints_37, dX8_prints_38, dX8_prints_39, dX8_prints_40, dX8_prints_43, dX8_prints_44, dX8_prints_47, dX8_prints_49, dX8_prints_50, dX8_prints_52, dX8_prints_55, dX8_prints_56, dX8_prints_59, dX8_prints_62, dX8_prints_63, dX8_prints_65, dX8_prints_67, dX8_prints_68, dX8_prints_70, dX8_prints_71, dX8_prints_72, dX8_prints_73, dX8_prints_76, dX8_prints_77, dX8_prints_78, dX8_prints_80, dX8_prints_82, dX8_prints_83, dX8_prints_86, dX8_prints_87, dX8_prints_88, dX8_prints_89, dX8_prints_92, dX8_prints_94, dX8_prints_96, dX8_prints_99, dX8_prints_100, dX8_prints_103, dX8_prints_105, dX8_prints_108, dX8_prints_109, dX8_prints_112, dX8_prints_113, dX8_prints_116, dX8_prints_117, dX8_prints_119, dX8_prints_120, dX8_prints_123, dX8_prints_124, dX8_prints_126, dX8_prints_127, dX8_prints_128, dX8_prints_129, dX8_prints_131, dX8_prints_132, dX8_prints_134, dX8_prints_137, dX8_prints_139, dX8_prints_142, dX8_prints_145, dX8_prints_147, dX8_prints_148, dX8_prints_149, dX8_prints_152, dX8_prints_154, dX8_prints_157, dX8_prints_159, dX8_prints_162, dX8_prints_163, dX8_prints_164, dX8_prints_166, dX8_prints_169, dX8_prints_170, dX8_prints_173, dX8_prints_174, dX8_prints_175, dX8_prints_176, dX8_prints_179, dX8_prints_182, dX8_prints_185, dX8_prints_188, dX8_prints_189, cpX8, mT_X8_prints, SHl_58, SHl_59, SHl_60, SHl_61, SHl_62, SHl_63, SHl_64, SHl_65, SHl_66, SHl_67, SHl_68, SHl_69, SHl_70, SHl_71, SHl_72, SHl_73, SHl_74, SHl_75, S_X8_alterOf, S_X8_finds, S_X8_headOf, S_X8_letterOf, S_X8_nameIn, k0, ix2, ix3, Bool.or_true, Bool.or_false, Bool.true_or, Bool.false_or]
        rw [hw0]
        exact ⟨⟨by omega, by omega⟩, ⟨by omega, by omega⟩, fun q => by omega, fun _ => hx⟩
      · have hc0 : 0 < c := by
          rcases Nat.eq_zero_or_pos c with h | h
          · exact absurd (a7 h).2.1 hbar
          · exact h
        have hx := nloop (V 5 c).toNat 0 (by omega) τ ho hj hb hwn (fun x hx => by
            rw [hf hc0 x (by omega)]
            show _ = gF V (frC V c) c 0 x
            unfold gF
            rw [if_neg hbar]) (fun c' j' h1 h2 => hdone c' j' (by omega) h2) u6 u7
        refine hK (fun q => q == 9 || q == 65) 100 _ _ _ _ ?_
        simp only [↓wp, ↓stp, ilen, lnth, st1, st2, nolong, nohead, rnth, ↓gfX, ↓pfX, gfV, pfV, cpF, cpP, cndZ, ↓tgo, ↓tsw, ↓lsw, ↓ldI, ↓ldA, ↓ldL, ↓stI, ↓stA, ↓stL, ↓bin, ↓binD, ↓binL, ↓binDL, ↓una, ↓acV, ↓acK, ↓acpy, ↓inv, entL, nones, List.length_cons, List.length_nil, List.take, List.drop, List.reverse_cons, List.reverse_nil, List.nil_append, List.cons_append, Option.toList_some, Option.toList_none, Nat.reduceAdd, Nat.reduceSub, Nat.reduceLT, Nat.reduceEqDiff, Fin.isValue, aTL, aSZ, Int.toNat_natCast, hset_same, hset_o, hset_s, hset_row, ne_eq, Nat.reduceBEq, beq_self_eq_true, Fin.val_zero, Fin.val_one, fin0, fin1, fin2, fin3, Nat.le_refl, Nat.reduceLeDiff, Nat.zero_le, Int.reduceAdd, Int.reduceNeg, Int.reduceLE, Int.reduceLT, Int.reduceToNat, Int.reduceMul, Int.cast_ofNat_Int, Nat.reduceMod, ↓reduceIte, if_true, if_false, and_true, true_and, or_true, true_or, false_or, or_false, and_self, not_true_eq_false, not_false_eq_true, Bool.false_eq_true, reduceCtorEq, false_implies, true_implies, implies_true, and_false, false_and, dX8_prints_0, dX8_prints_1, dX8_prints_2, dX8_prints_5, dX8_prints_6, dX8_prints_7, dX8_prints_8, dX8_prints_9, dX8_prints_10, dX8_prints_11, dX8_prints_12, dX8_prints_13, dX8_prints_16, dX8_prints_17, dX8_prints_18, dX8_prints_19, dX8_prints_20, dX8_prints_21, dX8_prints_23, dX8_prints_24, dX8_prints_26, dX8_prints_28, dX8_prints_30, dX8_prints_33, dX8_prints_34, dX8_prints_36, dX8_prints_37, dX8_prints_38, dX8_prints_39, dX8_prints_40, dX8_prints_43, dX8_prints_44, dX8_prints_47, dX8_prints_49, dX8_prints_50, dX8_prints_52, dX8_prints_55, dX8_prints_56, dX8_prints_59, dX8_prints_62, dX8_prints_63, dX8_prints_65, dX8_prints_67, dX8_prints_68, dX8_prints_70, dX8_prints_71, dX8_prints_72, dX8_prints_73, dX8_prints_76, dX8_prints_77, dX8_prints_78, dX8_prints_80, dX8_prints_82, dX8_prints_83, dX8_prints_86, dX8_prints_87, dX8_prints_88, dX8_prints_89, dX8_prints_92, dX8_prints_94, dX8_prints_96, dX8_prints_99, dX8_prints_100, dX8_prints_103, dX8_prints_105, dX8_prints_108, dX8_prints_109, dX8_prints_112, dX8_prints_113, dX8_prints_116, dX8_prints_117, dX8_prints_119, dX8_prints_120, dX8_prints_123, dX8_prints_124, dX8_prints_126, dX8_prints_127, dX8_prints_128, dX8_prints_129, dX8_prints_131, dX8_prints_132, dX8_prints_134, dX8_prints_137, dX8_prints_139, dX8_prints_142, dX8_prints_145, dX8_prints_147, dX8_prints_148, dX8_prints_149, dX8_prints_152, dX8_prints_154, dX8_prints_157, dX8_prints_159, dX8_prints_162, dX8_prints_163, dX8_prints_164, dX8_prints_166, dX8_prints_169, dX8_prints_170, dX8_prints_173, dX8_prints_174, dX8_prints_175, dX8_prints_176, dX8_prints_179, dX8_prints_182, dX8_prints_185, dX8_prints_188, dX8_prints_189, cpX8, mT_X8_prints, SHl_58, SHl_59, SHl_60, SHl_61, SHl_62, SHl_63, SHl_64, SHl_65, SHl_66, SHl_67, SHl_68, SHl_69, SHl_70, SHl_71, SHl_72, SHl_73, SHl_74, SHl_75, S_X8_alterOf, S_X8_finds, S_X8_headOf, S_X8_letterOf, S_X8_nameIn, k0, ix2, ix3, Bool.or_true, Bool.or_false, Bool.true_or, Bool.false_or]
        rw [hw0, ← e2]
        (repeat' (first | apply And.intro | intro _)) <;> first | omega | exact hx
  refine hK (fun q => q == 9 || q == 26 || q == 65) 100 _ _ _ _ ?_
  simp only [↓wp, ↓stp, ilen, lnth, st1, st2, nolong, nohead, rnth, ↓gfX, ↓pfX, gfV, pfV, cpF, cpP, cndZ, ↓tgo, ↓tsw, ↓lsw, ↓ldI, ↓ldA, ↓ldL, ↓stI, ↓stA, ↓stL, ↓bin, ↓binD, ↓binL, ↓binDL, ↓una, ↓acV, ↓acK, ↓acpy, ↓inv, entL, nones, List.length_cons, List.length_nil, List.take, List.drop, List.reverse_cons, List.reverse_nil, List.nil_append, List.cons_append, Option.toList_some, Option.toList_none, Nat.reduceAdd, Nat.reduceSub, Nat.reduceLT, Nat.reduceEqDiff, Fin.isValue, aTL, aSZ, Int.toNat_natCast, hset_same, hset_o, hset_s, hset_row, ne_eq, Nat.reduceBEq, beq_self_eq_true, Fin.val_zero, Fin.val_one, fin0, fin1, fin2, fin3, Nat.le_refl, Nat.reduceLeDiff, Nat.zero_le, Int.reduceAdd, Int.reduceNeg, Int.reduceLE, Int.reduceLT, Int.reduceToNat, Int.reduceMul, Int.cast_ofNat_Int, Nat.reduceMod, ↓reduceIte, if_true, if_false, and_true, true_and, or_true, true_or, false_or, or_false, and_self, not_true_eq_false, not_false_eq_true, Bool.false_eq_true, reduceCtorEq, false_implies, true_implies, implies_true, and_false, false_and, dX8_prints_0, dX8_prints_1, dX8_prints_2, dX8_prints_5, dX8_prints_6, dX8_prints_7, dX8_prints_8, dX8_prints_9, dX8_prints_10, dX8_prints_11, dX8_prints_12, dX8_prints_13, dX8_prints_16, dX8_prints_17, dX8_prints_18, dX8_prints_19, dX8_prints_20, dX8_prints_21, dX8_prints_23, dX8_prints_24, dX8_prints_26, dX8_prints_28, dX8_prints_30, dX8_prints_33, dX8_prints_34, dX8_prints_36, dX8_prints_37, dX8_prints_38, dX8_prints_39, dX8_prints_40, dX8_prints_43, dX8_prints_44, dX8_prints_47, dX8_prints_49, dX8_prints_50, dX8_prints_52, dX8_prints_55, dX8_prints_56, dX8_prints_59, dX8_prints_62, dX8_prints_63, dX8_prints_65, dX8_prints_67, dX8_prints_68, dX8_prints_70, dX8_prints_71, dX8_prints_72, dX8_prints_73, dX8_prints_76, dX8_prints_77, dX8_prints_78, dX8_prints_80, dX8_prints_82, dX8_prints_83, dX8_prints_86, dX8_prints_87, dX8_prints_88, dX8_prints_89, dX8_prints_92, dX8_prints_94, dX8_prints_96, dX8_prints_99, dX8_prints_100, dX8_prints_103, dX8_prints_105, dX8_prints_108, dX8_prints_109, dX8_prints_112, dX8_prints_113, dX8_prints_116, dX8_prints_117, dX8_prints_119, dX8_prints_120, dX8_prints_123, dX8_prints_124, dX8_prints_126, dX8_prints_127, dX8_prints_128, dX8_prints_129, dX8_prints_131, dX8_prints_132, dX8_prints_134, dX8_prints_137, dX8_prints_139, dX8_prints_142, dX8_prints_145, dX8_prints_147, dX8_prints_148, dX8_prints_149, dX8_prints_152, dX8_prints_154, dX8_prints_157, dX8_prints_159, dX8_prints_162, dX8_prints_163, dX8_prints_164, dX8_prints_166, dX8_prints_169, dX8_prints_170, dX8_prints_173, dX8_prints_174, dX8_prints_175, dX8_prints_176, dX8_prints_179, dX8_prints_182, dX8_prints_185, dX8_prints_188, dX8_prints_189, cpX8, mT_X8_prints, SHl_58, SHl_59, SHl_60, SHl_61, SHl_62, SHl_63, SHl_64, SHl_65, SHl_66, SHl_67, SHl_68, SHl_69, SHl_70, SHl_71, SHl_72, SHl_73, SHl_74, SHl_75, S_X8_alterOf, S_X8_finds, S_X8_headOf, S_X8_letterOf, S_X8_nameIn, k0, Bool.or_true, Bool.or_false, Bool.true_or, Bool.false_or]
  refine ⟨hw, by rw [← hVe]; exact hV, n1, fun τ h => ?_⟩
  rw [← hVe] at h
  exact loop (ncV V) 0 (by omega) τ (fun q hqq => h.1 q (by unfold fdP; unfold prP at hqq; omega)) h.2.1 h.2.2.1 h.2.2.2.1 (fun h => by omega) (fun c' j' h => by omega) _ _ _ _
theorem capM_b {x : Int} (h : 0 ≤ x) : 0 ≤ capM x ∧ capM x ≤ 99999999 := by
  unfold capM
  split <;> omega
theorem capM_add {x y : Int} (h : 0 ≤ x) (h' : 0 ≤ y) : capM (capM x + capM y) = capM (x + y) := by
  unfold capM
  by_cases h1 : 99999999 < x
  · rw [if_pos h1, if_pos (show 99999999 < x + y by omega)]
    split <;> split <;> omega
  · rw [if_neg h1]
    by_cases h2 : 99999999 < y
    · rw [if_pos h2, if_pos (show 99999999 < x + y by omega)]
      split <;> omega
    · rw [if_neg h2]
def S_X8_allWays : MSpec := fun a σ Q => match a with
  | [.inr (.inl 58)] => okV (vM σ 64 0) ∧ 1 ≤ σ 64 1 ∧ ∀ τ, fdOk σ τ (vM σ 64 0) → Q (some (.inl (capM (waysV (vM σ 64 0))))) τ
  | _ => False
theorem rc_X8_allWays : ∀ a σ Q, S_X8_allWays a σ Q → ∃ (p : Nat) (r : List AV), a = .inr (.inl p) :: r ∧ p < 76 ∧ (SH p).1 = 4 ∧ (SH p).2.1 = 7 := by
  intro a σ Q h
  unfold S_X8_allWays at h
  split at h
  · exact ⟨58, _, rfl, by decide, rfl, rfl⟩
  · exact h.elim
def mT_X8_allWays (i : Nat) : Option (Nat × Bool × MSpec) := match i with
  | 202 => some (2, true, S_X8_finds)
  | _ => none
theorem mT_X8_allWays_ok {l : Launch} {n : Nat} (hn : 7 ≤ n) : ∀ i e, mT_X8_allWays i = some e → mV l (rmOf n) RX8 i e := by
  intro i e h
  unfold mT_X8_allWays at h
  split at h
  · cases h; exact mvI (lv := 6) (ci := 7) (T := TX8) (N := 28) mw_X8_finds rfl (by omega) (by decide) (by decide +kernel) (gtm 1001 (by decide +kernel) (by decide +kernel)) rc_X8_finds ok_X8_finds
  · cases h
/-- the ways of the first t windows that cost the least of all -/
def awZ (V : HP) : Nat → Int
  | 0 => 0
  | t + 1 => awZ V t + (if ddV V 0 t = bestV V then wwV V 0 t else 0)
theorem cntN_sum (f g : Nat → Int) (M : Int) (s : Nat → Int) (h0 : s 0 = 0) (hs : ∀ t, s (t + 1) = s t + (if f t = M then g t else 0)) : ∀ n, (∀ b, b < n → M ≤ f b) → (∀ b, b < n → f b < 1000000) → (lstN f n = M → cntN f g n = s n) ∧ (M < lstN f n → s n = 0)
  | 0, _, _ => ⟨fun _ => by rw [h0]; rfl, fun _ => h0⟩
  | n + 1, hM, hf => by
    obtain ⟨i1, i2⟩ := cntN_sum f g M s h0 hs n (fun b hb => hM b (by omega)) (fun b hb => hf b (by omega))
    have m0 := hM n (by omega)
    have f0 := hf n (by omega)
    have hl : M ≤ lstN f n ∨ n = 0 := by
      rcases Nat.eq_zero_or_pos n with h | h
      · exact Or.inr h
      · have := fstN_ok f n (fun b hb => hf b (by omega)) h
        have h2 := hM (fstN f n) (by omega)
        omega
    rw [lstN_s, cntN_s, hs n]
    have hl : M ≤ lstN f n := by
      rcases hl with h | h
      · exact h
      · subst h
        show M ≤ 1000000
        omega
    constructor
    · intro h
      by_cases e : f n < lstN f n
      · rw [if_pos e] at h ⊢
        rw [if_pos h, i2 (by omega)]
        omega
      · rw [if_neg e] at h ⊢
        by_cases e2 : f n = lstN f n
        · rw [if_pos e2, if_pos (by omega), i1 h]
        · rw [if_neg e2, if_neg (by omega), i1 h]
          omega
    · intro h
      by_cases e : f n < lstN f n
      · rw [if_pos e] at h
        rw [if_neg (by omega), i2 (by omega)]
        rfl
      · rw [if_neg e] at h
        rw [if_neg (by omega), i2 (by omega)]
        rfl
theorem awZ_24 {V : HP} (hV : okV V) (h : 1 ≤ V 0 1) : awZ V 24 = waysV V := by
  have db := fun x (hx : x < 24) => ddV_b hV (c := 0) (a := x) (by unfold ncV; omega) hx
  have := (cntN_sum (fun a => ddV V 0 a) (fun a => wwV V 0 a) (bestV V) (awZ V) rfl (fun t => rfl) 24 (fun b hb => lstN_le (fun a => ddV V 0 a) 24 b hb) (fun b hb => by have := db b hb; show ddV V 0 b < _; omega)).1 rfl
  exact this.symm
theorem awZ_nn {V : HP} (hV : okV V) : ∀ t, 0 ≤ awZ V t
  | 0 => Int.le_refl 0
  | t + 1 => by
    have h1 := awZ_nn hV t
    have h2 := (wwV_b hV (c := 0) (a := t)).1
    unfold awZ
    split <;> omega
set_option maxRecDepth 100000 in
set_option maxHeartbeats 16000000 in
theorem ok_X8_allWays : ∀ l n, 7 ≤ n → ∀ a σ Q, S_X8_allWays a σ Q → AM l n yX8_allWays cX8_allWays 3 (some .int) a σ Q := by
  intro l n hn a σ Q hS
  unfold S_X8_allWays at hS
  split at hS
  rotate_left
  · exact hS.elim
  obtain ⟨hV, n1, hq⟩ := hS
  obtain ⟨V, hVe⟩ : ∃ V, V = vM σ 64 0 := ⟨_, rfl⟩
  rw [← hVe] at hV hq
  obtain ⟨v0, v1, v2⟩ := vM_0 σ 64
  rw [← hVe] at v0 v1 v2
  have hnc : 0 < ncV V := by unfold ncV; omega
  refine am_ofF 1 cpX8 mT_X8_allWays (plainFor_of_name (by decide +kernel)) (rfl) (Nat.le_of_ble_eq_true rfl) (cpX8_ok) (mT_X8_allWays_ok hn) (fun K hK => ?_)
  have loop : ∀ τ, fdOk σ τ V → ∀ (d t : Nat), t + d = 24 → K 12 [some (.inr (.inl 58)), some (.inl (capM (awZ V t))), some (.inl (t : Int))] [] τ := by
    intro τ ht d
    induction d with
    | zero =>
      intro t htt
      refine hK (fun q => q == 12) 100 _ _ _ _ ?_
      simp only [↓wp, ↓stp, ilen, lnth, st1, st2, nolong, nohead, rnth, ↓gfX, ↓pfX, gfV, pfV, cpF, cpP, cndZ, ↓tgo, ↓tsw, ↓lsw, ↓ldI, ↓ldA, ↓ldL, ↓stI, ↓stA, ↓stL, ↓bin, ↓binD, ↓binL, ↓binDL, ↓una, ↓acV, ↓acK, ↓acpy, ↓inv, entL, nones, List.length_cons, List.length_nil, List.take, List.drop, List.reverse_cons, List.reverse_nil, List.nil_append, List.cons_append, Option.toList_some, Option.toList_none, Nat.reduceAdd, Nat.reduceSub, Nat.reduceLT, Nat.reduceEqDiff, Fin.isValue, aTL, aSZ, Int.toNat_natCast, hset_same, hset_o, hset_s, hset_row, ne_eq, Nat.reduceBEq, beq_self_eq_true, Fin.val_zero, Fin.val_one, fin0, fin1, fin2, fin3, Nat.le_refl, Nat.reduceLeDiff, Nat.zero_le, Int.reduceAdd, Int.reduceNeg, Int.reduceLE, Int.reduceLT, Int.reduceToNat, Int.reduceMul, Int.cast_ofNat_Int, Nat.reduceMod, ↓reduceIte, if_true, if_false, and_true, true_and, or_true, true_or, false_or, or_false, and_self, not_true_eq_false, not_false_eq_true, Bool.false_eq_true, reduceCtorEq, false_implies, true_implies, implies_true, and_false, false_and, dX8_allWays_0, dX8_allWays_1, dX8_allWays_2, dX8_allWays_5, dX8_allWays_8, dX8_allWays_9, dX8_allWays_10, dX8_allWays_11, dX8_allWays_12, dX8_allWays_13, dX8_allWays_15, dX8_allWays_18, dX8_allWays_19, dX8_allWays_20, dX8_allWays_23, dX8_allWays_24, dX8_allWays_25, dX8_allWays_26, dX8_allWays_29, dX8_allWays_32, dX8_allWays_33, dX8_allWays_36, dX8_allWays_37, dX8_allWays_38, dX8_allWays_41, dX8_allWays_42, dX8_allWays_43, dX8_allWays_44, dX8_allWays_45, dX8_allWays_47, dX8_allWays_50, dX8_allWays_52, dX8_allWays_55, dX8_allWays_56, dX8_allWays_57, dX8_allWays_60, dX8_allWays_63, dX8_allWays_64, cpX8, mT_X8_allWays, SHl_58, SHl_59, SHl_60, SHl_61, SHl_62, SHl_63, SHl_64, SHl_65, SHl_66, SHl_67, SHl_68, SHl_69, SHl_70, SHl_71, SHl_72, SHl_73, SHl_74, SHl_75, S_X8_finds]
      have hq' := hq τ ht
      rw [← awZ_24 hV (by omega), show 24 = t by omega] at hq'
      exact ⟨⟨by omega, by omega⟩, ⟨by omega, by omega⟩, fun _ => hq', fun q => by omega⟩
    | succ d ih =>
      intro t htt
      have hx := ih (t + 1) (by omega)
      obtain ⟨T1, T2⟩ := ht.2.2.2.2 0 hnc t (by omega)
      rw [show 24 * 0 + t = t by omega] at T1 T2
      have db := ddV_b hV (c := 0) (a := t) hnc (by omega)
      have wb := (wwV_b hV (c := 0) (a := t)).1
      have ab := awZ_nn hV t
      have hb := ht.2.2.1
      have bb : 0 ≤ bestV V ∧ bestV V ≤ 840 := by
        have fo := fstN_ok (fun a => ddV V 0 a) 24 (fun x hx => by have := ddV_b hV (c := 0) (a := x) hnc hx; show ddV V 0 x < _; omega) (by decide)
        unfold bestV
        rw [← fo.2.1]
        exact ddV_b hV hnc (by omega)
      refine hK (fun q => q == 12) 100 _ _ _ _ ?_
      simp only [↓wp, ↓stp, ilen, lnth, st1, st2, nolong, nohead, rnth, ↓gfX, ↓pfX, gfV, pfV, cpF, cpP, cndZ, ↓tgo, ↓tsw, ↓lsw, ↓ldI, ↓ldA, ↓ldL, ↓stI, ↓stA, ↓stL, ↓bin, ↓binD, ↓binL, ↓binDL, ↓una, ↓acV, ↓acK, ↓acpy, ↓inv, entL, nones, List.length_cons, List.length_nil, List.take, List.drop, List.reverse_cons, List.reverse_nil, List.nil_append, List.cons_append, Option.toList_some, Option.toList_none, Nat.reduceAdd, Nat.reduceSub, Nat.reduceLT, Nat.reduceEqDiff, Fin.isValue, aTL, aSZ, Int.toNat_natCast, hset_same, hset_o, hset_s, hset_row, ne_eq, Nat.reduceBEq, beq_self_eq_true, Fin.val_zero, Fin.val_one, fin0, fin1, fin2, fin3, Nat.le_refl, Nat.reduceLeDiff, Nat.zero_le, Int.reduceAdd, Int.reduceNeg, Int.reduceLE, Int.reduceLT, Int.reduceToNat, Int.reduceMul, Int.cast_ofNat_Int, Nat.reduceMod, ↓reduceIte, if_true, if_false, and_true, true_and, or_true, true_or, false_or, or_false, and_self, not_true_eq_false, not_false_eq_true, Bool.false_eq_true, reduceCtorEq, false_implies, true_implies, implies_true, and_false, false_and, dX8_allWays_0, dX8_allWays_1, dX8_allWays_2, dX8_allWays_5, dX8_allWays_8, dX8_allWays_9, dX8_allWays_10, dX8_allWays_11, dX8_allWays_12, dX8_allWays_13, dX8_allWays_15, dX8_allWays_18, dX8_allWays_19, dX8_allWays_20, dX8_allWays_23, dX8_allWays_24, dX8_allWays_25, dX8_allWays_26, dX8_allWays_29, dX8_allWays_32, dX8_allWays_33, dX8_allWays_36, dX8_allWays_37, dX8_allWays_38, dX8_allWays_41, dX8_allWays_42, dX8_allWays_43, dX8_allWays_44, dX8_allWays_45, dX8_allWays_47, dX8_allWays_50, dX8_allWays_52, dX8_allWays_55, dX8_allWays_56, dX8_allWays_57, dX8_allWays_60, dX8_allWays_63, dX8_allWays_64, cpX8, mT_X8_allWays, SHl_58, SHl_59, SHl_60, SHl_61, SHl_62, SHl_63, SHl_64, SHl_65, SHl_66, SHl_67, SHl_68, SHl_69, SHl_70, SHl_71, SHl_72, SHl_73, SHl_74, SHl_75, S_X8_finds]
      rw [T1, T2, hb]
      unfold awZ at hx
      have c1 := capM_b ab
      have c2 := capM_b wb
      by_cases e : ddV V 0 t = bestV V
      · rw [if_pos e, ← capM_add ab wb] at hx
        generalize capM (awZ V t) = A at *
        generalize capM (wwV V 0 t) = W at *
        unfold capM at hx
        (repeat' (first | apply And.intro | intro _)) <;> first | omega | (rw [if_pos (by omega)] at hx; exact hx) | (rw [if_neg (by omega)] at hx; exact hx)
      · rw [if_neg e, Int.add_zero] at hx
        generalize capM (awZ V t) = A at *
        generalize capM (wwV V 0 t) = W at *
        (repeat' (first | apply And.intro | intro _)) <;> first | omega | (rw [Int.add_zero]; exact hx)
  refine hK (fun q => q == 12) 100 _ _ _ _ ?_
  simp only [↓wp, ↓stp, ilen, lnth, st1, st2, nolong, nohead, rnth, ↓gfX, ↓pfX, gfV, pfV, cpF, cpP, cndZ, ↓tgo, ↓tsw, ↓lsw, ↓ldI, ↓ldA, ↓ldL, ↓stI, ↓stA, ↓stL, ↓bin, ↓binD, ↓binL, ↓binDL, ↓una, ↓acV, ↓acK, ↓acpy, ↓inv, entL, nones, List.length_cons, List.length_nil, List.take, List.drop, List.reverse_cons, List.reverse_nil, List.nil_append, List.cons_append, Option.toList_some, Option.toList_none, Nat.reduceAdd, Nat.reduceSub, Nat.reduceLT, Nat.reduceEqDiff, Fin.isValue, aTL, aSZ, Int.toNat_natCast, hset_same, hset_o, hset_s, hset_row, ne_eq, Nat.reduceBEq, beq_self_eq_true, Fin.val_zero, Fin.val_one, fin0, fin1, fin2, fin3, Nat.le_refl, Nat.reduceLeDiff, Nat.zero_le, Int.reduceAdd, Int.reduceNeg, Int.reduceLE, Int.reduceLT, Int.reduceToNat, Int.reduceMul, Int.cast_ofNat_Int, Nat.reduceMod, ↓reduceIte, if_true, if_false, and_true, true_and, or_true, true_or, false_or, or_false, and_self, not_true_eq_false, not_false_eq_true, Bool.false_eq_true, reduceCtorEq, false_implies, true_implies, implies_true, and_false, false_and, dX8_allWays_0, dX8_allWays_1, dX8_allWays_2, dX8_allWays_5, dX8_allWays_8, dX8_allWays_9, dX8_allWays_10, dX8_allWays_11, dX8_allWays_12, dX8_allWays_13, dX8_allWays_15, dX8_allWays_18, dX8_allWays_19, dX8_allWays_20, dX8_allWays_23, dX8_allWays_24, dX8_allWays_25, dX8_allWays_26, dX8_allWays_29, dX8_allWays_32, dX8_allWays_33, dX8_allWays_36, dX8_allWays_37, dX8_allWays_38, dX8_allWays_41, dX8_allWays_42, dX8_allWays_43, dX8_allWays_44, dX8_allWays_45, dX8_allWays_47, dX8_allWays_50, dX8_allWays_52, dX8_allWays_55, dX8_allWays_56, dX8_allWays_57, dX8_allWays_60, dX8_allWays_63, dX8_allWays_64, cpX8, mT_X8_allWays, SHl_58, SHl_59, SHl_60, SHl_61, SHl_62, SHl_63, SHl_64, SHl_65, SHl_66, SHl_67, SHl_68, SHl_69, SHl_70, SHl_71, SHl_72, SHl_73, SHl_74, SHl_75, S_X8_finds]
  refine ⟨isW_64, by rw [← hVe]; exact hV, n1, fun τ h => ?_⟩
  rw [← hVe] at h
  exact loop τ h 24 0 (by omega)
