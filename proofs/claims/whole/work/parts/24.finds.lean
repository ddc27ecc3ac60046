/-! ===== finds, windowOf ===== -/
theorem mx1 (c : Nat) : ((c : Int) + 1 - 1).toNat = c := by omega
theorem mx2 (c a : Nat) : (24 * ((c : Int) + 1 - 1) + a).toNat = 24 * c + a := by omega
theorem mx3 (c a : Nat) : (24 * ((c : Int) + 1) + a).toNat = 24 * (c + 1) + a := by omega
theorem mx4 (c : Nat) : ((c : Int) + 1).toNat = c + 1 := by omega
theorem gcV_b {V : HP} (hV : okV V) {c a : Nat} (hc : c < ncV V) (ha : a < 24) : 0 ≤ gcV V c a ∧ gcV V c a ≤ 840 := by
  unfold gcV
  split
  · omega
  · have db := fun x (hx : x < 24) => ddV_b hV (c := c + 1) (a := x) (by omega) hx
    split
    · exact db a ha
    · have h1 := lstN_le (fun b => ddV V (c + 1) b + stpV V (c + 1) a b) 24 a ha
      simp only [stpV_0] at h1
      have fo := fstN_ok (fun b => ddV V (c + 1) b + stpV V (c + 1) a b) 24 (fun x hx => by
        have := db x hx
        have := stpV_b (V := V) (c := c + 1) ha hx
        show ddV V (c + 1) x + stpV V (c + 1) a x < _
        omega) (by decide)
      have h2 := db _ fo.1
      have h3 := stpV_b (V := V) (c := c + 1) ha fo.1
      have h4 := db a ha
      rw [← fo.2.1] at h1 ⊢
      show 0 ≤ ddV V (c + 1) _ + stpV V (c + 1) a _ ∧ ddV V (c + 1) _ + stpV V (c + 1) a _ ≤ 840
      have h1 : ddV V (c + 1) (fstN (fun b => ddV V (c + 1) b + stpV V (c + 1) a b) 24) + stpV V (c + 1) a (fstN (fun b => ddV V (c + 1) b + stpV V (c + 1) a b) 24) ≤ ddV V (c + 1) a + 0 := h1
      omega
def fdP : Nat → Prop := fun q => q = 58 ∨ q = 70 ∨ q = 71 ∨ q = 72
def fdOk (σ τ : HP) (V : HP) : Prop := only σ τ fdP ∧ (∀ j, j ≠ 23 → τ 58 j = σ 58 j) ∧ τ 58 23 = bestV V ∧ (∀ c, c < ncV V → τ 72 c = winV V c) ∧ ∀ c, c < ncV V → tabM τ V c
def S_X8_finds : MSpec := fun a σ Q => match a with
  | [.inr (.inl 58), .inr (.inl w)] => isW w ∧ okV (vM σ w 0) ∧ 1 ≤ σ w 1 ∧ ∀ τ, fdOk σ τ (vM σ w 0) → Q none τ
  | _ => False
theorem rc_X8_finds : ∀ a σ Q, S_X8_finds a σ Q → ∃ (p : Nat) (r : List AV), a = .inr (.inl p) :: r ∧ p < 76 ∧ (SH p).1 = 4 ∧ (SH p).2.1 = 7 := by
  intro a σ Q h
  unfold S_X8_finds at h
  split at h
  · exact ⟨58, _, rfl, by decide, rfl, rfl⟩
  · exact h.elim
def mT_X8_finds (i : Nat) : Option (Nat × Bool × MSpec) := match i with
  | 188 => some (4, false, S_X8_moveTo)
  | 192 => some (3, false, S_X8_priceOf)
  | 195 => some (2, true, S_X8_reckons)
  | _ => none
theorem mT_X8_finds_ok {l : Launch} {n : Nat} (hn : 6 ≤ n) : ∀ i e, mT_X8_finds i = some e → mV l (rmOf n) RX8 i e := by
  intro i e h
  unfold mT_X8_finds at h
  split at h
  · cases h; exact mvS (lv := 1) mw_X8_moveTo (by omega) (by decide) (by decide +kernel) (Or.inl (gtm 1009 (by decide +kernel) (by decide +kernel))) ok_X8_moveTo
  · cases h; exact mvS (lv := 4) mw_X8_priceOf (by omega) (by decide) (by decide +kernel) (Or.inl (gtm 1019 (by decide +kernel) (by decide +kernel))) ok_X8_priceOf
  · cases h; exact mvI (lv := 5) (ci := 7) (T := TX8) (N := 28) mw_X8_reckons rfl (by omega) (by decide) (by decide +kernel) (gtm 1005 (by decide +kernel) (by decide +kernel)) rc_X8_reckons ok_X8_reckons
  · cases h
set_option maxRecDepth 100000 in
set_option maxHeartbeats 16000000 in
theorem ok_X8_finds : ∀ l n, 6 ≤ n → ∀ a σ Q, S_X8_finds a σ Q → AM l n yX8_finds cX8_finds 6 none a σ Q := by
  intro l n hn a σ Q hS
  unfold S_X8_finds at hS
  split at hS
  rotate_left
  · exact hS.elim
  rename_i w
  obtain ⟨hw, hV, n1, hq⟩ := hS
  obtain ⟨k0, k1⟩ := id hw
  have w58 : w ≠ 58 := isW_ne hw (by decide)
  have w70 : w ≠ 70 := isW_ne hw (by decide)
  have w71 : w ≠ 71 := isW_ne hw (by decide)
  have w72 : w ≠ 72 := isW_ne hw (by decide)
  obtain ⟨V, hVe⟩ : ∃ V, V = vM σ w 0 := ⟨_, rfl⟩
  rw [← hVe] at hV hq
  obtain ⟨v0, v1, v2⟩ := vM_0 σ w
  rw [← hVe] at v0 v1 v2
  obtain ⟨o1, o2, o3, -, oc, on⟩ := id hV
  have hnc : (ncV V : Int) = σ w 1 := by unfold ncV; rw [v1]; omega
  refine am_ofF 0 cpX8 mT_X8_finds (plainFor_of_name (by decide +kernel)) (rfl) (Nat.le_of_ble_eq_true rfl) (cpX8_ok) (mT_X8_finds_ok hn) (fun K hK => ?_)
  have loop2 : ∀ (d c : Nat), c + 1 + d = ncV V → ∀ τ, only σ τ fdP → (∀ j, j ≠ 23 → τ 58 j = σ 58 j) → τ 58 23 = bestV V → (∀ x, x ≤ c → τ 72 x = winV V x) → (∀ x, x < ncV V → tabM τ V x) → ∀ u3 u4 u5 : Option AV, K 66 [some (.inr (.inl 58)), some (.inr (.inl w)), some (.inl ((c : Int) + 1)), u3, u4, u5] [] τ := by
    intro d
    induction d with
    | zero =>
      intro c hc τ ho hj hb hw2 hT u3 u4 u5
      have hw0 : τ w = σ w := ho w (by unfold fdP; omega)
      refine hK (fun q => q == 13 || q == 66 || q == 112) 100 _ _ _ _ ?_
      simp only [↓wp, ↓stp, ilen, lnth, st1, st2, nolong, nohead, rnth, ↓gfX, ↓pfX, gfV, pfV, cpF, cpP, cndZ, ↓tgo, ↓tsw, ↓lsw, ↓ldI, ↓ldA, ↓ldL, ↓stI, ↓stA, ↓stL, ↓bin, ↓binD, ↓binL, ↓binDL, ↓una, ↓acV, ↓acK, ↓acpy, ↓inv, entL, nones, List.length_cons, List.length_nil, List.take, List.drop, List.reverse_cons, List.reverse_nil, List.nil_append, List.cons_append, Option.toList_some, Option.toList_none, Nat.reduceAdd, Nat.reduceSub, Nat.reduceLT, Nat.reduceEqDiff, Fin.isValue, aTL, aSZ, Int.toNat_natCast, hset_same, hset_o, hset_s, hset_row, ne_eq, Nat.reduceBEq, beq_self_eq_true, Fin.val_zero, Fin.val_one, fin0, fin1, fin2, fin3, Nat.le_refl, Nat.reduceLeDiff, Nat.zero_le, Int.reduceAdd, Int.reduceNeg, Int.reduceLE, Int.reduceLT, Int.reduceToNat, Int.reduceMul, Int.cast_ofNat_Int, Nat.reduceMod, ↓reduceIte, if_true, if_false, and_true, true_and, or_true, true_or, false_or, or_false, and_self, not_true_eq_false, not_false_eq_true, Bool.false_eq_true, reduceCtorEq, false_implies, true_implies, implies_true, and_false, false_and, dX8_finds_0, dX8_finds_1, dX8_finds_2, dX8_finds_5, dX8_finds_6, dX8_finds_8, dX8_finds_11, dX8_finds_12, dX8_finds_13, dX8_finds_14, dX8_finds_16, dX8_finds_19, dX8_finds_20, dX8_finds_23, dX8_finds_25, dX8_finds_28, dX8_finds_29, dX8_finds_32, dX8_finds_33, dX8_finds_34, dX8_finds_35, dX8_finds_38, dX8_finds_41, dX8_finds_42, dX8_finds_43, dX8_finds_46, dX8_finds_47, dX8_finds_48, dX8_finds_51, dX8_finds_52, dX8_finds_55, dX8_finds_56, dX8_finds_57, dX8_finds_58, dX8_finds_61, dX8_finds_64, dX8_finds_65, dX8_finds_66, dX8_finds_67, dX8_finds_68, dX8_finds_69, dX8_finds_70, dX8_finds_73, dX8_finds_74, dX8_finds_77, dX8_finds_78, dX8_finds_79, dX8_finds_80, dX8_finds_81, dX8_finds_82, dX8_finds_83, dX8_finds_86, dX8_finds_88, dX8_finds_89, dX8_finds_90, dX8_finds_91, dX8_finds_92, dX8_finds_93, dX8_finds_94, dX8_finds_95, dX8_finds_96, dX8_finds_97, dX8_finds_98, dX8_finds_99, dX8_finds_101, dX8_finds_102, dX8_finds_103, dX8_finds_106, dX8_finds_107, dX8_finds_109, dX8_finds_110, dX8_finds_112, dX8_finds_113, dX8_finds_114, dX8_finds_115, dX8_finds_117, dX8_finds_120, dX8_finds_122, dX8_finds_125, dX8_finds_126, dX8_finds_127, dX8_finds_128, dX8_finds_130, dX8_finds_133, dX8_finds_134, dX8_finds_137, dX8_finds_139, dX8_finds_140, dX8_finds_141, dX8_finds_143, dX8_finds_144, dX8_finds_145, dX8_finds_146, dX8_finds_148, dX8_finds_151, dX8_finds_154, dX8_finds_157, dX8_finds_158, dX8_finds_161, dX8_finds_162, dX8_finds_164, dX8_finds_165, dX8_finds_168, dX8_finds_171, cpX8, mT_X8_finds, SHl_58, SHl_59, SHl_60, SHl_61, SHl_62, SHl_63, SHl_64, SHl_65, SHl_66, SHl_67, SHl_68, SHl_69, SHl_70, SHl_71, SHl_72, SHl_73, SHl_74, SHl_75, S_X8_moveTo, S_X8_priceOf, S_X8_reckons, k0, Bool.or_true, Bool.or_false, Bool.true_or, Bool.false_or]
      rw [hw0]
      exact ⟨⟨by omega, by omega⟩, ⟨by omega, by omega⟩, fun _ => hq τ ⟨ho, hj, hb, fun x hx => hw2 x (by omega), hT⟩, fun q => by omega⟩
    | succ d ih =>
      intro c hc τ ho hj hb hw2 hT u3 u4 u5
      have hw0 : τ w = σ w := ho w (by unfold fdP; omega)
      have hVt : vM τ w 0 = V := by rw [vM_only hw0, hVe]
      have wl := winV_lt hV (by omega) c (by omega)
      obtain ⟨a, ha⟩ : ∃ a, winV V c = a := ⟨_, rfl⟩
      rw [ha] at wl
      have hwc := hw2 c (Nat.le_refl c)
      rw [ha] at hwc
      have T0 := hT c (by omega) a wl
      have T1 := hT (c + 1) (by omega)
      have oc1 := oc (c + 1) (by omega)
      obtain ⟨e1, e2, e3, e4, e5⟩ := vM_c (σ := σ) (w := w) (c := c + 1) (by omega)
      rw [← hVe] at e1 e2 e3 e4 e5
      rw [e1, e3] at oc1
      have pb := pV_b (V := V) (c := c) (x := (a : Int) - 15) hV (by omega) (by omega) (by omega)
      have db := fun x (hx : x < 24) => ddV_b hV (c := c + 1) (a := x) (by omega) hx
      have dbc := ddV_b hV (c := c) (a := a) (by omega) wl
      have hgc : ddV V c a - pV V c ((a : Int) - 15) = gcV V c a := by rw [ddV_eq (by omega)]; omega
      have hnlt := nnV_lt hV (c := c) (a := a) (by omega) wl
      have hnn := nnV_eq (V := V) (c := c) (a := a) (by omega)
      rw [if_neg (by omega), e1] at hnn
      have hgv : gcV V c a = if 4 ≤ σ w (5 * (c + 1) + 3) then ddV V (c + 1) a else lstN (fun b => ddV V (c + 1) b + stpV V (c + 1) a b) 24 := by
        unfold gcV
        rw [if_neg (by omega), e1]
      -- what the search meets
      have hit : ∀ t, t < 24 → t ≤ nnV V c a → (4 ≤ σ w (5 * (c + 1) + 3) ∧ ¬ (a : Int) = t ∧ t < nnV V c a) ∨ (¬ (4 ≤ σ w (5 * (c + 1) + 3) ∧ ¬ (a : Int) = t) ∧ (stepZ (σ w (5 * (c + 1) + 7)) a t + ddV V (c + 1) t = gcV V c a ↔ t = nnV V c a)) := by
        intro t ht1 ht2
        by_cases h4 : 4 ≤ σ w (5 * (c + 1) + 3)
        · rw [if_pos h4] at hnn hgv
          rw [hnn] at ht2 ⊢
          by_cases e : t = a
          · right
            subst e
            refine ⟨by omega, ?_⟩
            rw [hgv]
            have : stepZ (σ w (5 * (c + 1) + 7)) t t = 0 := by unfold stepZ; simp
            omega
          · left; omega
        · right
          refine ⟨fun z => h4 z.1, ?_⟩
          rw [if_neg h4] at hnn hgv
          have fo := fstN_ok (fun b => ddV V (c + 1) b + stpV V (c + 1) a b) 24 (fun x hx => by
            have := db x hx
            have := stpV_b (V := V) (c := c + 1) wl hx
            show ddV V (c + 1) x + stpV V (c + 1) a x < _
            omega) (by decide)
          rw [hnn] at ht2 ⊢
          rw [hgv]
          have hs : stepZ (σ w (5 * (c + 1) + 7)) a t + ddV V (c + 1) t = (fun b => ddV V (c + 1) b + stpV V (c + 1) a b) t := by
            show _ = ddV V (c + 1) t + stpV V (c + 1) a t
            unfold stpV
            rw [e3]
            omega
          rw [hs]
          constructor
          · intro z
            by_cases e : t < fstN (fun b => ddV V (c + 1) b + stpV V (c + 1) a b) 24
            · exact absurd z (Int.ne_of_gt (fo.2.2 t e))
            · omega
          · intro z
            rw [z]
            exact fo.2.1
      have search : ∀ (f t : Nat), t + f = nnV V c a → K 112 [some (.inr (.inl 58)), some (.inr (.inl w)), some (.inl ((c : Int) + 1)), some (.inl (a : Int)), some (.inl (gcV V c a)), some (.inl (t : Int))] [] τ := by
        intro f
        induction f with
        | zero =>
          intro t ht
          have h1 := hit t (by omega) (by omega)
          have tt := (T1 t (by omega)).1
          have dbt := db t (by omega)
          have sb : 0 ≤ stepZ (σ w (5 * (c + 1) + 7)) a t ∧ stepZ (σ w (5 * (c + 1) + 7)) a t ≤ 23 := by
            unfold stepZ
            split <;> omega
          have hx := ih (c + 1) (by omega) (hset τ 72 (c + 1) (t : Int)) (only_set ho (by unfold fdP; omega)) (fun j hjj => by rw [hset_o (by decide)]; exact hj j hjj) (by rw [hset_o (by decide)]; exact hb) (fun x hx => by
            by_cases e : x = c + 1
            · subst e
              rw [hset_same]
              show (t : Int) = (winV V (c + 1) : Nat)
              have : winV V (c + 1) = nnV V c a := by rw [← ha]; rfl
              omega
            · rw [hset_s e]
              exact hw2 x (by omega)) (fun x hx t ht => by rw [hset_o (by decide), hset_o (by decide)]; exact hT x hx t ht)
          refine hK (fun q => q == 13 || q == 66 || q == 112) 100 _ _ _ _ ?_
          simp only [↓wp, ↓stp, ilen, lnth, st1, st2, nolong, nohead, rnth, ↓gfX, ↓pfX, gfV, pfV, cpF, cpP, cndZ, ↓tgo, ↓tsw, ↓lsw, ↓ldI, ↓ldA, ↓ldL, ↓stI, ↓stA, ↓stL, ↓bin, ↓binD, ↓binL, ↓binDL, ↓una, ↓acV, ↓acK, ↓acpy, ↓inv, entL, nones, List.length_cons, List.length_nil, List.take, List.drop, List.reverse_cons, List.reverse_nil, List.nil_append, List.cons_append, Option.toList_some, Option.toList_none, Nat.reduceAdd, Nat.reduceSub, Nat.reduceLT, Nat.reduceEqDiff, Fin.isValue, aTL, aSZ, Int.toNat_natCast, hset_same, hset_o, hset_s, hset_row, ne_eq, Nat.reduceBEq, beq_self_eq_true, Fin.val_zero, Fin.val_one, fin0, fin1, fin2, fin3, Nat.le_refl, Nat.reduceLeDiff, Nat.zero_le, Int.reduceAdd, Int.reduceNeg, Int.reduceLE, Int.reduceLT, Int.reduceToNat, Int.reduceMul, Int.cast_ofNat_Int, Nat.reduceMod, ↓reduceIte, if_true, if_false, and_true, true_and, or_true, true_or, false_or, or_false, and_self, not_true_eq_false, not_false_eq_true, Bool.false_eq_true, reduceCtorEq, false_implies, true_implies, implies_true, and_false, false_and, dX8_finds_0, dX8_finds_1, dX8_finds_2, dX8_finds_5, dX8_finds_6, dX8_finds_8, dX8_finds_11, dX8_finds_12, dX8_finds_13, dX8_finds_14, dX8_finds_16, dX8_finds_19, dX8_finds_20, dX8_finds_23, dX8_finds_25, dX8_finds_28, dX8_finds_29, dX8_finds_32, dX8_finds_33, dX8_finds_34, dX8_finds_35, dX8_finds_38, dX8_finds_41, dX8_finds_42, dX8_finds_43, dX8_finds_46, dX8_finds_47, dX8_finds_48, dX8_finds_51, dX8_finds_52, dX8_finds_55, dX8_finds_56, dX8_finds_57, dX8_finds_58, dX8_finds_61, dX8_finds_64, dX8_finds_65, dX8_finds_66, dX8_finds_67, dX8_finds_68, dX8_finds_69, dX8_finds_70, dX8_finds_73, dX8_finds_74, dX8_finds_77, dX8_finds_78, dX8_finds_79, dX8_finds_80, dX8_finds_81, dX8_finds_82, dX8_finds_83, dX8_finds_86, dX8_finds_88, dX8_finds_89, dX8_finds_90, dX8_finds_91, dX8_finds_92, dX8_finds_93, dX8_finds_94, dX8_finds_95, dX8_finds_96, dX8_finds_97, dX8_finds_98, dX8_finds_99, dX8_finds_101, dX8_finds_102, dX8_finds_103, dX8_finds_106, dX8_finds_107, dX8_finds_109, dX8_finds_110, dX8_finds_112, dX8_finds_113, dX8_finds_114, dX8_finds_115, dX8_finds_117, dX8_finds_120, dX8_finds_122, dX8_finds_125, dX8_finds_126, dX8_finds_127, dX8_finds_128, dX8_finds_130, dX8_finds_133, dX8_finds_134, dX8_finds_137, dX8_finds_139, dX8_finds_140, dX8_finds_141, dX8_finds_143, dX8_finds_144, dX8_finds_145, dX8_finds_146, dX8_finds_148, dX8_finds_151, dX8_finds_154, dX8_finds_157, dX8_finds_158, dX8_finds_161, dX8_finds_162, dX8_finds_164, dX8_finds_165, dX8_finds_168, dX8_finds_171, cpX8, mT_X8_finds, SHl_58, SHl_59, SHl_60, SHl_61, SHl_62, SHl_63, SHl_64, SHl_65, SHl_66, SHl_67, SHl_68, SHl_69, SHl_70, SHl_71, SHl_72, SHl_73, SHl_74, SHl_75, S_X8_moveTo, S_X8_priceOf, S_X8_reckons, k0, jx0, jx4, mx3, mx4, Bool.or_true, Bool.or_false, Bool.true_or, Bool.false_or]
          rw [hw0, tt]
          have hgb := gcV_b hV (c := c) (a := a) (by omega) wl
          generalize stepZ (σ w (5 * (c + 1) + 7)) a t = S0 at *
          generalize gcV V c a = G0 at *
          generalize ddV V (c + 1) t = D0 at *
          (repeat' (first | apply And.intro | intro _)) <;> first | omega | exact hw | (split <;> omega) | exact hx _ _ _ | (exfalso; revert ‹_›; split <;> omega)
        | succ f ihf =>
          intro t ht
          have h1 := hit t (by omega) (by omega)
          have tt := (T1 t (by omega)).1
          have dbt := db t (by omega)
          have sb : 0 ≤ stepZ (σ w (5 * (c + 1) + 7)) a t ∧ stepZ (σ w (5 * (c + 1) + 7)) a t ≤ 23 := by
            unfold stepZ
            split <;> omega
          have hx := ihf (t + 1) (by omega)
          refine hK (fun q => q == 13 || q == 66 || q == 112) 100 _ _ _ _ ?_
          simp only [↓wp, ↓stp, ilen, lnth, st1, st2, nolong, nohead, rnth, ↓gfX, ↓pfX, gfV, pfV, cpF, cpP, cndZ, ↓tgo, ↓tsw, ↓lsw, ↓ldI, ↓ldA, ↓ldL, ↓stI, ↓stA, ↓stL, ↓bin, ↓binD, ↓binL, ↓binDL, ↓una, ↓acV, ↓acK, ↓acpy, ↓inv, entL, nones, List.length_cons, List.length_nil, List.take, List.drop, List.reverse_cons, List.reverse_nil, List.nil_append, List.cons_append, Option.toList_some, Option.toList_none, Nat.reduceAdd, Nat.reduceSub, Nat.reduceLT, Nat.reduceEqDiff, Fin.isValue, aTL, aSZ, Int.toNat_natCast, hset_same, hset_o, hset_s, hset_row, ne_eq, Nat.reduceBEq, beq_self_eq_true, Fin.val_zero, Fin.val_one, fin0, fin1, fin2, fin3, Nat.le_refl, Nat.reduceLeDiff, Nat.zero_le, Int.reduceAdd, Int.reduceNeg, Int.reduceLE, Int.reduceLT, Int.reduceToNat, Int.reduceMul, Int.cast_ofNat_Int, Nat.reduceMod, ↓reduceIte, if_true, if_false, and_true, true_and, or_true, true_or, false_or, or_false, and_self, not_true_eq_false, not_false_eq_true, Bool.false_eq_true, reduceCtorEq, false_implies, true_implies, implies_true, and_false, false_and, dX8_finds_0, dX8_finds_1, dX8_finds_2, dX8_finds_5, dX8_finds_6, dX8_finds_8, dX8_finds_11, dX8_finds_12, dX8_finds_13, dX8_finds_14, dX8_finds_16, dX8_finds_19, dX8_finds_20, dX8_finds_23, dX8_finds_25, dX8_finds_28, dX8_finds_29, dX8_finds_32, dX8_finds_33, dX8_finds_34, dX8_finds_35, dX8_finds_38, dX8_finds_41, dX8_finds_42, dX8_finds_43, dX8_finds_46, dX8_finds_47, dX8_finds_48, dX8_finds_51, dX8_finds_52, dX8_finds_55, dX8_finds_56, dX8_finds_57, dX8_finds_58, dX8_finds_61, dX8_finds_64, dX8_finds_65, dX8_finds_66, dX8_finds_67, dX8_finds_68, dX8_finds_69, dX8_finds_70, dX8_finds_73, dX8_finds_74, dX8_finds_77, dX8_finds_78, dX8_finds_79, dX8_finds_80, dX8_finds_81, dX8_finds_82, dX8_finds_83, dX8_finds_86, dX8_finds_88, dX8_finds_89, dX8_finds_90, dX8_finds_91, dX8_finds_92, dX8_finds_93, dX8_finds_94, dX8_finds_95, dX8_finds_96, dX8_finds_97, dX8_finds_98, dX8_finds_99, dX8_finds_101, dX8_finds_102, dX8_finds_103, dX8_finds_106, dX8_finds_107, dX8_finds_109, dX8_finds_110, dX8_finds_112, dX8_finds_113, dX8_finds_114, dX8_finds_115, dX8_finds_117, dX8_finds_120, dX8_finds_122, dX8_finds_125, dX8_finds_126, dX8_finds_127, dX8_finds_128, dX8_finds_130, dX8_finds_133, dX8_finds_134, dX8_finds_137, dX8_finds_139, dX8_finds_140, dX8_finds_141, dX8_finds_143, dX8_finds_144, dX8_finds_145, dX8_finds_146, dX8_finds_148, dX8_finds_151, dX8_finds_154, dX8_finds_157, dX8_finds_158, dX8_finds_161, dX8_finds_162, dX8_finds_164, dX8_finds_165, dX8_finds_168, dX8_finds_171, cpX8, mT_X8_finds, SHl_58, SHl_59, SHl_60, SHl_61, SHl_62, SHl_63, SHl_64, SHl_65, SHl_66, SHl_67, SHl_68, SHl_69, SHl_70, SHl_71, SHl_72, SHl_73, SHl_74, SHl_75, S_X8_moveTo, S_X8_priceOf, S_X8_reckons, k0, jx0, jx4, mx3, mx4, Bool.or_true, Bool.or_false, Bool.true_or, Bool.false_or]
          rw [hw0, tt]
          have hgb := gcV_b hV (c := c) (a := a) (by omega) wl
          generalize stepZ (σ w (5 * (c + 1) + 7)) a t = S0 at *
          generalize gcV V c a = G0 at *
          generalize ddV V (c + 1) t = D0 at *
          (repeat' (first | apply And.intro | intro _)) <;> first | omega | exact hw | (split <;> omega) | exact hx | (exfalso; revert ‹_›; split <;> omega)
      have s0 := search (nnV V c a) 0 (by omega)
      refine hK (fun q => q == 13 || q == 66 || q == 112) 100 _ _ _ _ ?_
      simp only [↓wp, ↓stp, ilen, lnth, st1, st2, nolong, nohead, rnth, ↓gfX, ↓pfX, gfV, pfV, cpF, cpP, cndZ, ↓tgo, ↓tsw, ↓lsw, ↓ldI, ↓ldA, ↓ldL, ↓stI, ↓stA, ↓stL, ↓bin, ↓binD, ↓binL, ↓binDL, ↓una, ↓acV, ↓acK, ↓acpy, ↓inv, entL, nones, List.length_cons, List.length_nil, List.take, List.drop, List.reverse_cons, List.reverse_nil, List.nil_append, List.cons_append, Option.toList_some, Option.toList_none, Nat.reduceAdd, Nat.reduceSub, Nat.reduceLT, Nat.reduceEqDiff, Fin.isValue, aTL, aSZ, Int.toNat_natCast, hset_same, hset_o, hset_s, hset_row, ne_eq, Nat.reduceBEq, beq_self_eq_true, Fin.val_zero, Fin.val_one, fin0, fin1, fin2, fin3, Nat.le_refl, Nat.reduceLeDiff, Nat.zero_le, Int.reduceAdd, Int.reduceNeg, Int.reduceLE, Int.reduceLT, Int.reduceToNat, Int.reduceMul, Int.cast_ofNat_Int, Nat.reduceMod, ↓reduceIte, if_true, if_false, and_true, true_and, or_true, true_or, false_or, or_false, and_self, not_true_eq_false, not_false_eq_true, Bool.false_eq_true, reduceCtorEq, false_implies, true_implies, implies_true, and_false, false_and, dX8_finds_0, dX8_finds_1, dX8_finds_2, dX8_finds_5, dX8_finds_6, dX8_finds_8, dX8_finds_11, dX8_finds_12, dX8_finds_13, dX8_finds_14, dX8_finds_16, dX8_finds_19, dX8_finds_20, dX8_finds_23, dX8_finds_25, dX8_finds_28, dX8_finds_29, dX8_finds_32, dX8_finds_33, dX8_finds_34, dX8_finds_35, dX8_finds_38, dX8_finds_41, dX8_finds_42, dX8_finds_43, dX8_finds_46, dX8_finds_47, dX8_finds_48, dX8_finds_51, dX8_finds_52, dX8_finds_55, dX8_finds_56, dX8_finds_57, dX8_finds_58, dX8_finds_61, dX8_finds_64, dX8_finds_65, dX8_finds_66, dX8_finds_67, dX8_finds_68, dX8_finds_69, dX8_finds_70, dX8_finds_73, dX8_finds_74, dX8_finds_77, dX8_finds_78, dX8_finds_79, dX8_finds_80, dX8_finds_81, dX8_finds_82, dX8_finds_83, dX8_finds_86, dX8_finds_88, dX8_finds_89, dX8_finds_90, dX8_finds_91, dX8_finds_92, dX8_finds_93, dX8_finds_94, dX8_finds_95, dX8_finds_96, dX8_finds_97, dX8_finds_98, dX8_finds_99, dX8_finds_101, dX8_finds_102, dX8_finds_103, dX8_finds_106, dX8_finds_107, dX8_finds_109, dX8_finds_110, dX8_finds_112, dX8_finds_113, dX8_finds_114, dX8_finds_115, dX8_finds_117, dX8_finds_120, dX8_finds_122, dX8_finds_125, dX8_finds_126, dX8_finds_127, dX8_finds_128, dX8_finds_130, dX8_finds_133, dX8_finds_134, dX8_finds_137, dX8_finds_139, dX8_finds_140, dX8_finds_141, dX8_finds_143, dX8_finds_144, dX8_finds_145, dX8_finds_146, dX8_finds_148, dX8_finds_151, dX8_finds_154, dX8_finds_157, dX8_finds_158, dX8_finds_161, dX8_finds_162, dX8_finds_164, dX8_finds_165, dX8_finds_168, dX8_finds_171, cpX8, mT_X8_finds, SHl_58, SHl_59, SHl_60, SHl_61, SHl_62, SHl_63, SHl_64, SHl_65, SHl_66, SHl_67, SHl_68, SHl_69, SHl_70, SHl_71, SHl_72, SHl_73, SHl_74, SHl_75, S_X8_moveTo, S_X8_priceOf, S_X8_reckons, k0, jx0, jx4, mx1, mx2, mx3, mx4, Bool.or_true, Bool.or_false, Bool.true_or, Bool.false_or, Int.add_sub_cancel]
      rw [hwc, hw0, hVt, show (24 * (c : Int) + a).toNat = 24 * c + a by omega, T0.1, show (-15 + (a : Int)) = (a : Int) - 15 by omega, hgc]
      exact ⟨⟨by omega, by omega⟩, ⟨by omega, by omega⟩, fun q => by omega, fun _ => ⟨by omega, by omega, by omega, by omega, hw, hV, by omega, by omega, s0⟩⟩
  have loop1 : ∀ τ0, only σ τ0 rkP → (∀ x, x < ncV V → tabM τ0 V x) → ∀ (d t : Nat), t + d = 24 → ∀ τ, only σ τ fdP → (∀ j, j ≠ 23 → τ 58 j = σ 58 j) → τ 70 = τ0 70 → τ 71 = τ0 71 → (t = 0 → τ 58 23 = -1000000) → (0 < t → τ 58 23 = lstN (fun a => ddV V 0 a) t ∧ τ 72 0 = fstN (fun a => ddV V 0 a) t) → ∀ u3 u4 u5 : Option AV, K 13 [some (.inr (.inl 58)), some (.inr (.inl w)), some (.inl (t : Int)), u3, u4, u5] [] τ := by
    intro τ0 h0 hT0 d
    induction d with
    | zero =>
      intro t ht τ ho hj e70 e71 hz hp u3 u4 u5
      obtain ⟨hb, hf⟩ := hp (by omega)
      have l2 := loop2 (ncV V - 1) 0 (by omega) τ ho hj (by rw [hb, show t = 24 by omega]; rfl) (fun x hx => by
        rw [show x = 0 by omega, hf, show t = 24 by omega]
        rfl) (fun x hx y hy => by rw [e70, e71]; exact hT0 x hx y hy) u3 u4 u5
      refine hK (fun q => q == 13 || q == 66 || q == 112) 100 _ _ _ _ ?_
      simp only [↓wp, ↓stp, ilen, lnth, st1, st2, nolong, nohead, rnth, ↓gfX, ↓pfX, gfV, pfV, cpF, cpP, cndZ, ↓tgo, ↓tsw, ↓lsw, ↓ldI, ↓ldA, ↓ldL, ↓stI, ↓stA, ↓stL, ↓bin, ↓binD, ↓binL, ↓binDL, ↓una, ↓acV, ↓acK, ↓acpy, ↓inv, entL, nones, List.length_cons, List.length_nil, List.take, List.drop, List.reverse_cons, List.reverse_nil, List.nil_append, List.cons_append, Option.toList_some, Option.toList_none, Nat.reduceAdd, Nat.reduceSub, Nat.reduceLT, Nat.reduceEqDiff, Fin.isValue, aTL, aSZ, Int.toNat_natCast, hset_same, hset_o, hset_s, hset_row, ne_eq, Nat.reduceBEq, beq_self_eq_true, Fin.val_zero, Fin.val_one, fin0, fin1, fin2, fin3, Nat.le_refl, Nat.reduceLeDiff, Nat.zero_le, Int.reduceAdd, Int.reduceNeg, Int.reduceLE, Int.reduceLT, Int.reduceToNat, Int.reduceMul, Int.cast_ofNat_Int, Nat.reduceMod, ↓reduceIte, if_true, if_false, and_true, true_and, or_true, true_or, false_or, or_false, and_self, not_true_eq_false, not_false_eq_true, Bool.false_eq_true, reduceCtorEq, false_implies, true_implies, implies_true, and_false, false_and, dX8_finds_0, dX8_finds_1, dX8_finds_2, dX8_finds_5, dX8_finds_6, dX8_finds_8, dX8_finds_11, dX8_finds_12, dX8_finds_13, dX8_finds_14, dX8_finds_16, dX8_finds_19, dX8_finds_20, dX8_finds_23, dX8_finds_25, dX8_finds_28, dX8_finds_29, dX8_finds_32, dX8_finds_33, dX8_finds_34, dX8_finds_35, dX8_finds_38, dX8_finds_41, dX8_finds_42, dX8_finds_43, dX8_finds_46, dX8_finds_47, dX8_finds_48, dX8_finds_51, dX8_finds_52, dX8_finds_55, dX8_finds_56, dX8_finds_57, dX8_finds_58, dX8_finds_61, dX8_finds_64, dX8_finds_65, dX8_finds_66, dX8_finds_67, dX8_finds_68, dX8_finds_69, dX8_finds_70, dX8_finds_73, dX8_finds_74, dX8_finds_77, dX8_finds_78, dX8_finds_79, dX8_finds_80, dX8_finds_81, dX8_finds_82, dX8_finds_83, dX8_finds_86, dX8_finds_88, dX8_finds_89, dX8_finds_90, dX8_finds_91, dX8_finds_92, dX8_finds_93, dX8_finds_94, dX8_finds_95, dX8_finds_96, dX8_finds_97, dX8_finds_98, dX8_finds_99, dX8_finds_101, dX8_finds_102, dX8_finds_103, dX8_finds_106, dX8_finds_107, dX8_finds_109, dX8_finds_110, dX8_finds_112, dX8_finds_113, dX8_finds_114, dX8_finds_115, dX8_finds_117, dX8_finds_120, dX8_finds_122, dX8_finds_125, dX8_finds_126, dX8_finds_127, dX8_finds_128, dX8_finds_130, dX8_finds_133, dX8_finds_134, dX8_finds_137, dX8_finds_139, dX8_finds_140, dX8_finds_141, dX8_finds_143, dX8_finds_144, dX8_finds_145, dX8_finds_146, dX8_finds_148, dX8_finds_151, dX8_finds_154, dX8_finds_157, dX8_finds_158, dX8_finds_161, dX8_finds_162, dX8_finds_164, dX8_finds_165, dX8_finds_168, dX8_finds_171, cpX8, mT_X8_finds, SHl_58, SHl_59, SHl_60, SHl_61, SHl_62, SHl_63, SHl_64, SHl_65, SHl_66, SHl_67, SHl_68, SHl_69, SHl_70, SHl_71, SHl_72, SHl_73, SHl_74, SHl_75, S_X8_moveTo, S_X8_priceOf, S_X8_reckons, k0, Bool.or_true, Bool.or_false, Bool.true_or, Bool.false_or]
      exact ⟨⟨by omega, by omega⟩, ⟨by omega, by omega⟩, fun _ => l2, fun q => by omega⟩
    | succ d ih =>
      intro t ht τ ho hj e70 e71 hz hp u3 u4 u5
      have db := ddV_b hV (c := 0) (a := t) (by omega) (by omega)
      have tt := (hT0 0 (by omega) t (by omega)).1
      rw [← e70, show 24 * 0 + t = t by omega] at tt
      have lb : 0 < t → 0 ≤ lstN (fun a => ddV V 0 a) t ∧ lstN (fun a => ddV V 0 a) t ≤ 840 := fun h => by
        have fo := fstN_ok (fun a => ddV V 0 a) t (fun x hx => by have := ddV_b hV (c := 0) (a := x) (by omega) (by omega); show ddV V 0 x < _; omega) h
        rw [← fo.2.1]
        exact ddV_b hV (by omega) (by omega)
      have stay : 0 < t → ¬ ddV V 0 t < lstN (fun a => ddV V 0 a) t → K 13 [some (.inr (.inl 58)), some (.inr (.inl w)), some (.inl ((t : Int) + 1)), u3, u4, u5] [] τ := fun h1 h2 => by
        obtain ⟨hb, hf⟩ := hp h1
        exact ih (t + 1) (by omega) τ ho hj e70 e71 (fun h => by omega) (fun _ => by
          rw [lstN_s, fstN_s]
          show τ 58 23 = (if ddV V 0 t < _ then _ else _) ∧ τ 72 0 = ((if ddV V 0 t < _ then _ else _ : Nat) : Int)
          rw [if_neg h2, if_neg h2]
          exact ⟨hb, hf⟩) u3 u4 u5
      have move : (t = 0 ∨ ddV V 0 t < lstN (fun a => ddV V 0 a) t) → K 13 [some (.inr (.inl 58)), some (.inr (.inl w)), some (.inl ((t : Int) + 1)), u3, u4, u5] [] (hset (hset τ 58 23 (ddV V 0 t)) 72 0 (t : Int)) := fun h => by
        have h2 : ddV V 0 t < lstN (fun a => ddV V 0 a) t := by
          rcases h with h | h
          · rw [show lstN (fun a => ddV V 0 a) t = 1000000 by rw [h]; rfl]; omega
          · exact h
        refine ih (t + 1) (by omega) _ (only_set (only_set ho (by unfold fdP; omega)) (by unfold fdP; omega)) (fun j hjj => by rw [hset_o (by decide), hset_s hjj]; exact hj j hjj) (by rw [hset_row (by decide), hset_row (by decide)]; exact e70) (by rw [hset_row (by decide), hset_row (by decide)]; exact e71) (fun h => by omega) (fun _ => ?_) u3 u4 u5
        rw [lstN_s, fstN_s]
        show _ = (if ddV V 0 t < _ then ddV V 0 t else _) ∧ _ = ((if ddV V 0 t < _ then t else _ : Nat) : Int)
        rw [if_pos h2, if_pos h2]
        exact ⟨by rw [hset_o (by decide), hset_same], hset_same⟩
      refine hK (fun q => q == 13 || q == 66 || q == 112) 100 _ _ _ _ ?_
      simp only [↓wp, ↓stp, ilen, lnth, st1, st2, nolong, nohead, rnth, ↓gfX, ↓pfX, gfV, pfV, cpF, cpP, cndZ, ↓tgo, ↓tsw, ↓lsw, ↓ldI, ↓ldA, ↓ldL, ↓stI, ↓stA, ↓stL, ↓bin, ↓binD, ↓binL, ↓binDL, ↓una, ↓acV, ↓acK, ↓acpy, ↓inv, entL, nones, List.length_cons, List.length_nil, List.take, List.drop, List.reverse_cons, List.reverse_nil, List.nil_append, List.cons_append, Option.toList_some, Option.toList_none, Nat.reduceAdd, Nat.reduceSub, Nat.reduceLT, Nat.reduceEqDiff, Fin.isValue, aTL, aSZ, Int.toNat_natCast, hset_same, hset_o, hset_s, hset_row, ne_eq, Nat.reduceBEq, beq_self_eq_true, Fin.val_zero, Fin.val_one, fin0, fin1, fin2, fin3, Nat.le_refl, Nat.reduceLeDiff, Nat.zero_le, Int.reduceAdd, Int.reduceNeg, Int.reduceLE, Int.reduceLT, Int.reduceToNat, Int.reduceMul, Int.cast_ofNat_Int, Nat.reduceMod, ↓reduceIte, if_true, if_false, and_true, true_and, or_true, true_or, false_or, or_false, and_self, not_true_eq_false, not_false_eq_true, Bool.false_eq_true, reduceCtorEq, false_implies, true_implies, implies_true, and_false, false_and, dX8_finds_0, dX8_finds_1, dX8_finds_2, dX8_finds_5, dX8_finds_6, dX8_finds_8, dX8_finds_11, dX8_finds_12, dX8_finds_13, dX8_finds_14, dX8_finds_16, dX8_finds_19, dX8_finds_20, dX8_finds_23, dX8_finds_25, dX8_finds_28, dX8_finds_29, dX8_finds_32, dX8_finds_33, dX8_finds_34, dX8_finds_35, dX8_finds_38, dX8_finds_41, dX8_finds_42, dX8_finds_43, dX8_finds_46, dX8_finds_47, dX8_finds_48, dX8_finds_51, dX8_finds_52, dX8_finds_55, dX8_finds_56, dX8_finds_57, dX8_finds_58, dX8_finds_61, dX8_finds_64, dX8_finds_65, dX8_finds_66, dX8_finds_67, dX8_finds_68, dX8_finds_69, dX8_finds_70, dX8_finds_73, dX8_finds_74, dX8_finds_77, dX8_finds_78, dX8_finds_79, dX8_finds_80, dX8_finds_81, dX8_finds_82, dX8_finds_83, dX8_finds_86, dX8_finds_88, dX8_finds_89, dX8_finds_90, dX8_finds_91, dX8_finds_92, dX8_finds_93, dX8_finds_94, dX8_finds_95, dX8_finds_96, dX8_finds_97, dX8_finds_98, dX8_finds_99, dX8_finds_101, dX8_finds_102, dX8_finds_103, dX8_finds_106, dX8_finds_107, dX8_finds_109, dX8_finds_110, dX8_finds_112, dX8_finds_113, dX8_finds_114, dX8_finds_115, dX8_finds_117, dX8_finds_120, dX8_finds_122, dX8_finds_125, dX8_finds_126, dX8_finds_127, dX8_finds_128, dX8_finds_130, dX8_finds_133, dX8_finds_134, dX8_finds_137, dX8_finds_139, dX8_finds_140, dX8_finds_141, dX8_finds_143, dX8_finds_144, dX8_finds_145, dX8_finds_146, dX8_finds_148, dX8_finds_151, dX8_finds_154, dX8_finds_157, dX8_finds_158, dX8_finds_161, dX8_finds_162, dX8_finds_164, dX8_finds_165, dX8_finds_168, dX8_finds_171, cpX8, mT_X8_finds, SHl_58, SHl_59, SHl_60, SHl_61, SHl_62, SHl_63, SHl_64, SHl_65, SHl_66, SHl_67, SHl_68, SHl_69, SHl_70, SHl_71, SHl_72, SHl_73, SHl_74, SHl_75, S_X8_moveTo, S_X8_priceOf, S_X8_reckons, k0, Bool.or_true, Bool.or_false, Bool.true_or, Bool.false_or]
      rw [tt]
      by_cases e : t = 0
      · rw [hz e]
        refine ⟨⟨by omega, by omega⟩, ⟨by omega, by omega⟩, fun q => by omega, fun _ => ⟨⟨by omega, by omega⟩, ⟨by omega, by omega⟩, fun _ => ⟨by omega, by omega, move (Or.inl e)⟩, fun q => absurd rfl q⟩⟩
      · have hb := (hp (by omega)).1
        have lb1 := lb (by omega)
        rw [hb]
        refine ⟨⟨by omega, by omega⟩, ⟨by omega, by omega⟩, fun q => by omega, fun _ => ⟨⟨by omega, by omega⟩, ⟨by omega, by omega⟩, fun q => by omega, fun _ => ⟨by omega, by omega, ⟨by omega, by omega⟩, ⟨by omega, by omega⟩, fun q => stay (by omega) (by omega), fun q => ⟨by omega, by omega, move (Or.inr (by omega))⟩⟩⟩⟩
  refine hK (fun q => q == 13 || q == 66 || q == 112) 100 _ _ _ _ ?_
  simp only [↓wp, ↓stp, ilen, lnth, st1, st2, nolong, nohead, rnth, ↓gfX, ↓pfX, gfV, pfV, cpF, cpP, cndZ, ↓tgo, ↓tsw, ↓lsw, ↓ldI, ↓ldA, ↓ldL, ↓stI, ↓stA, ↓stL, ↓bin, ↓binD, ↓binL, ↓binDL, ↓una, ↓acV, ↓acK, ↓acpy, ↓inv, entL, nones, List.length_cons, List.length_nil, List.take, List.drop, List.reverse_cons, List.reverse_nil, List.nil_append, List.cons_append, Option.toList_some, Option.toList_none, Nat.reduceAdd, Nat.reduceSub, Nat.reduceLT, Nat.reduceEqDiff, Fin.isValue, aTL, aSZ, Int.toNat_natCast, hset_same, hset_o, hset_s, hset_row, ne_eq, Nat.reduceBEq, beq_self_eq_true, Fin.val_zero, Fin.val_one, fin0, fin1, fin2, fin3, Nat.le_refl, Nat.reduceLeDiff, Nat.zero_le, Int.reduceAdd, Int.reduceNeg, Int.reduceLE, Int.reduceLT, Int.reduceToNat, Int.reduceMul, Int.cast_ofNat_Int, Nat.reduceMod, ↓reduceIte, if_true, if_false, and_true, true_and, or_true, true_or, false_or, or_false, and_self, not_true_eq_false, not_false_eq_true, Bool.false_eq_true, reduceCtorEq, false_implies, true_implies, implies_true, and_false, false_and, dX8_finds_0, dX8_finds_1, dX8_finds_2, dX8_finds_5, dX8_finds_6, dX8_finds_8, dX8_finds_11, dX8_finds_12, dX8_finds_13, dX8_finds_14, dX8_finds_16, dX8_finds_19, dX8_finds_20, dX8_finds_23, dX8_finds_25, dX8_finds_28, dX8_finds_29, dX8_finds_32, dX8_finds_33, dX8_finds_34, dX8_finds_35, dX8_finds_38, dX8_finds_41, dX8_finds_42, dX8_finds_43, dX8_finds_46, dX8_finds_47, dX8_finds_48, dX8_finds_51, dX8_finds_52, dX8_finds_55, dX8_finds_56, dX8_finds_57, dX8_finds_58, dX8_finds_61, dX8_finds_64, dX8_finds_65, dX8_finds_66, dX8_finds_67, dX8_finds_68, dX8_finds_69, dX8_finds_70, dX8_finds_73, dX8_finds_74, dX8_finds_77, dX8_finds_78, dX8_finds_79, dX8_finds_80, dX8_finds_81, dX8_finds_82, dX8_finds_83, dX8_finds_86, dX8_finds_88, dX8_finds_89, dX8_finds_90, dX8_finds_91, dX8_finds_92, dX8_finds_93, dX8_finds_94, dX8_finds_95, dX8_finds_96, dX8_finds_97, dX8_finds_98, dX8_finds_99, dX8_finds_101, dX8_finds_102, dX8_finds_103, dX8_finds_106, dX8_finds_107, dX8_finds_109, dX8_finds_110, dX8_finds_112, dX8_finds_113, dX8_finds_114, dX8_finds_115, dX8_finds_117, dX8_finds_120, dX8_finds_122, dX8_finds_125, dX8_finds_126, dX8_finds_127, dX8_finds_128, dX8_finds_130, dX8_finds_133, dX8_finds_134, dX8_finds_137, dX8_finds_139, dX8_finds_140, dX8_finds_141, dX8_finds_143, dX8_finds_144, dX8_finds_145, dX8_finds_146, dX8_finds_148, dX8_finds_151, dX8_finds_154, dX8_finds_157, dX8_finds_158, dX8_finds_161, dX8_finds_162, dX8_finds_164, dX8_finds_165, dX8_finds_168, dX8_finds_171, cpX8, mT_X8_finds, SHl_58, SHl_59, SHl_60, SHl_61, SHl_62, SHl_63, SHl_64, SHl_65, SHl_66, SHl_67, SHl_68, SHl_69, SHl_70, SHl_71, SHl_72, SHl_73, SHl_74, SHl_75, S_X8_moveTo, S_X8_priceOf, S_X8_reckons, k0, Bool.or_true, Bool.or_false, Bool.true_or, Bool.false_or]
  refine ⟨hw, by rw [← hVe]; exact hV, n1, fun τ h1 h2 => ?_⟩
  rw [← hVe] at h2
  refine loop1 τ h1 h2 24 0 (by omega) _ (only_set (fun q hqq => h1 q (by unfold rkP; unfold fdP at hqq; omega)) (by unfold fdP; omega)) (fun j hj => ?_) (hset_row (by decide)) (hset_row (by decide)) (fun _ => hset_same) (fun h => by omega) _ _ _
  rw [hset_s hj, h1 58 (by unfold rkP; omega)]
def S_X8_windowOf : MSpec := fun a σ Q => match a with
  | [.inr (.inl 58), .inl c] => okV (vM σ 64 0) ∧ (0 ≤ c ∧ c < σ 64 1) ∧ ∀ τ, fdOk σ τ (vM σ 64 0) → Q (some (.inl ((winV (vM σ 64 0) c.toNat : Int) - 15))) τ
  | _ => False
theorem rc_X8_windowOf : ∀ a σ Q, S_X8_windowOf a σ Q → ∃ (p : Nat) (r : List AV), a = .inr (.inl p) :: r ∧ p < 76 ∧ (SH p).1 = 4 ∧ (SH p).2.1 = 7 := by
  intro a σ Q h
  unfold S_X8_windowOf at h
  split at h
  · exact ⟨58, _, rfl, by decide, rfl, rfl⟩
  · exact h.elim
def mT_X8_windowOf (i : Nat) : Option (Nat × Bool × MSpec) := match i with
  | 202 => some (2, true, S_X8_finds)
  | _ => none
theorem mT_X8_windowOf_ok {l : Launch} {n : Nat} (hn : 7 ≤ n) : ∀ i e, mT_X8_windowOf i = some e → mV l (rmOf n) RX8 i e := by
  intro i e h
  unfold mT_X8_windowOf at h
  split at h
  · cases h; exact mvI (lv := 6) (ci := 7) (T := TX8) (N := 28) mw_X8_finds rfl (by omega) (by decide) (by decide +kernel) (gtm 1001 (by decide +kernel) (by decide +kernel)) rc_X8_finds ok_X8_finds
  · cases h
set_option maxRecDepth 100000 in
set_option maxHeartbeats 4000000 in
theorem ok_X8_windowOf : ∀ l n, 7 ≤ n → ∀ a σ Q, S_X8_windowOf a σ Q → AM l n yX8_windowOf cX8_windowOf 2 (some .int) a σ Q := by
  intro l n hn a σ Q hS
  unfold S_X8_windowOf at hS
  split at hS
  rotate_left
  · exact hS.elim
  rename_i c
  obtain ⟨hV, c1, hq⟩ := hS
  refine am_ofF 1 cpX8 mT_X8_windowOf (plainFor_of_name (by decide +kernel)) (rfl) (Nat.le_of_ble_eq_true rfl) (cpX8_ok) (mT_X8_windowOf_ok hn) (fun K hK => ?_)
  refine hK (fun _ => false) 200 _ _ _ _ ?_
  simp only [↓wp, ↓stp, ilen, lnth, st1, st2, nolong, nohead, rnth, ↓gfX, ↓pfX, gfV, pfV, cpF, cpP, cndZ, ↓tgo, ↓tsw, ↓lsw, ↓ldI, ↓ldA, ↓ldL, ↓stI, ↓stA, ↓stL, ↓bin, ↓binD, ↓binL, ↓binDL, ↓una, ↓acV, ↓acK, ↓acpy, ↓inv, entL, nones, List.length_cons, List.length_nil, List.take, List.drop, List.reverse_cons, List.reverse_nil, List.nil_append, List.cons_append, Option.toList_some, Option.toList_none, Nat.reduceAdd, Nat.reduceSub, Nat.reduceLT, Nat.reduceEqDiff, Fin.isValue, aTL, aSZ, Int.toNat_natCast, hset_same, hset_o, hset_s, hset_row, ne_eq, Nat.reduceBEq, beq_self_eq_true, Fin.val_zero, Fin.val_one, fin0, fin1, fin2, fin3, Nat.le_refl, Nat.reduceLeDiff, Nat.zero_le, Int.reduceAdd, Int.reduceNeg, Int.reduceLE, Int.reduceLT, Int.reduceToNat, Int.reduceMul, Int.cast_ofNat_Int, Nat.reduceMod, ↓reduceIte, if_true, if_false, and_true, true_and, or_true, true_or, false_or, or_false, and_self, not_true_eq_false, not_false_eq_true, Bool.false_eq_true, reduceCtorEq, false_implies, true_implies, implies_true, and_false, false_and, dX8_windowOf_0, dX8_windowOf_1, dX8_windowOf_2, dX8_windowOf_5, dX8_windowOf_8, dX8_windowOf_10, dX8_windowOf_11, dX8_windowOf_14, dX8_windowOf_15, dX8_windowOf_16, dX8_windowOf_17, cpX8, mT_X8_windowOf, SHl_58, SHl_59, SHl_60, SHl_61, SHl_62, SHl_63, SHl_64, SHl_65, SHl_66, SHl_67, SHl_68, SHl_69, SHl_70, SHl_71, SHl_72, SHl_73, SHl_74, SHl_75, S_X8_finds]
  obtain ⟨v0, v1, v2⟩ := vM_0 σ 64
  refine ⟨isW_64, hV, by omega, fun τ h => ?_⟩
  have h1 := h.2.2.2.1 c.toNat (by unfold ncV; rw [v1]; omega)
  have o2 := hV.2.1
  rw [v1] at o2
  rw [h1, show ∀ x : Int, -15 + x = x - 15 from fun x => by omega]
  exact ⟨by omega, by omega, hq τ h⟩
