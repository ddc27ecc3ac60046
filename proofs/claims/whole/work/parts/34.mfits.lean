/-! ===== the reference: fits, drawn ===== -/
def choF (V : HP) (n : Nat) : Nat → Nat → Nat
  | 0, c => c
  | d + 1, c => if (n : Int) < V 4 c + V 5 c then c else choF V n d (c + 1)
def choV (V : HP) (n : Nat) : Nat := choF V n (ncV V) 0
theorem choV_eq {V : HP} (hV : okV V) {c j : Nat} (hc : c < ncV V) (hj : (j : Int) < V 5 c) : choV V ((V 4 c).toNat + j) = c := by
  have oc := hV.2.2.2.2.1
  have h0 := (oc c (by unfold ncV at hc; omega)).2.2.2.1
  have hh : ∀ d c', c' + d = ncV V → c' ≤ c → choF V ((V 4 c).toNat + j) d c' = c := by
    intro d
    induction d with
    | zero => intro c' h1 h2; omega
    | succ d ih =>
      intro c' h1 h2
      unfold choF
      by_cases e : c' = c
      · subst e
        rw [if_pos (by omega)]
      · have hm := V4_mono hV (c - c') c' (by omega) (by omega)
        rw [show c' + (c - c') = c by omega] at hm
        rw [if_neg (by omega)]
        exact ih (c' + 1) (by omega) (by omega)
  exact hh (ncV V) 0 (by omega) (by omega)
/-- the letter of note n -/
def nlV (V : HP) (n : Nat) : Int := letZ (plV V (choV V n) (n - (V 4 (choV V n)).toNat))
theorem nlV_eq {V : HP} (hV : okV V) {c j : Nat} (hc : c < ncV V) (hj : (j : Int) < V 5 c) : nlV V ((V 4 c).toNat + j) = letZ (plV V c j) := by
  unfold nlV
  rw [choV_eq hV hc hj, show (V 4 c).toNat + j - (V 4 c).toNat = j by omega]
def fitF (V : HP) (f : Nat → Int) : Nat → Int
  | 0 => 1
  | n + 1 => if fitF V f n = 1 ∧ nlV V n = f n then 1 else 0
theorem fitF_01 (V : HP) (f : Nat → Int) : ∀ n, fitF V f n = 0 ∨ fitF V f n = 1
  | 0 => Or.inr rfl
  | n + 1 => by
    unfold fitF
    split
    · exact Or.inr rfl
    · exact Or.inl rfl
theorem fitF_s (V : HP) (f : Nat → Int) (n : Nat) : fitF V f (n + 1) = if fitF V f n = 1 ∧ nlV V n = f n then 1 else 0 := rfl
theorem fitF_0 {V : HP} {f : Nat → Int} {n : Nat} (h : fitF V f n = 0) : ∀ d, fitF V f (n + d) = 0
  | 0 => h
  | d + 1 => by
    have := fitF_0 h d
    show fitF V f ((n + d) + 1) = 0
    rw [fitF_s, if_neg (by omega)]
def plOk (V : HP) (p v : Int) (V' : HP) : Prop := (p = 0 ∧ (0 ≤ v ∧ v ≤ 14) ∧ V' = hset V 0 0 v) ∨ (∃ c : Nat, c < ncV V ∧ p = 3 + 5 * (c : Int) ∧ (1 ≤ v ∧ v ≤ 5) ∧ V' = hset V 1 c v) ∨ (∃ m : Nat, (m : Int) < V 0 2 ∧ p = 53 + (m : Int) ∧ (0 ≤ v ∧ v < 12) ∧ V' = hset V 6 m v)
theorem plOk_s {V V' : HP} {p v : Int} (hV : okV V) (h : plOk V p v V') : okV V' ∧ ncV V' = ncV V ∧ V' 0 1 = V 0 1 ∧ V' 0 2 = V 0 2 ∧ (∀ c, V' 4 c = V 4 c ∧ V' 5 c = V 5 c) ∧ (0 ≤ p ∧ p < 93) := by
  have o2 := hV.2.1
  have o3 := hV.2.2.1
  rcases h with ⟨h1, h2, rfl⟩ | ⟨c, hc, h1, h2, rfl⟩ | ⟨m, hm, h1, h2, rfl⟩
  · exact ⟨okV_g hV h2, ncV_u (by omega), rfl, rfl, fun c => ⟨rfl, rfl⟩, by omega⟩
  · unfold ncV at hc
    exact ⟨okV_d hV h2, ncV_u (by omega), rfl, rfl, fun c => ⟨rfl, rfl⟩, by omega⟩
  · exact ⟨okV_k hV h2, ncV_u (by omega), rfl, rfl, fun c => ⟨rfl, rfl⟩, by omega⟩
theorem plOk_v {σ V V' : HP} {w : Nat} {p v : Int} (hV : okV V) (h : plOk V p v V') (hw : vM σ w 0 = V) : vM (hset σ w p.toNat v) w 0 = V' := by
  obtain ⟨v0, v1, v2⟩ := vM_0 σ w
  rw [hw] at v0 v1 v2
  have o2 := hV.2.1
  rcases h with ⟨h1, h2, rfl⟩ | ⟨c, hc, h1, h2, rfl⟩ | ⟨m, hm, h1, h2, rfl⟩
  · subst h1
    rw [← hw]
    exact vM_g σ w v
  · unfold ncV at hc
    rw [show p.toNat = 5 * c + 3 by omega, ← hw]
    exact vM_d (by omega) (by omega)
  · rw [show p.toNat = 53 + m by omega, ← hw]
    exact vM_k (by omega) (by omega)
def S_X8_isRead : MSpec := fun a σ Q => match a with
  | [.inr (.inl 58), .inl r, .inl k, .inl p, .inl v] => okV (vM σ 64 0) ∧ 1 ≤ σ 64 1 ∧ (0 ≤ r ∧ r < 8) ∧ (0 ≤ k ∧ k ≤ σ 64 2) ∧ (∀ j, R32 (σ 61 j)) ∧ ∃ V', plOk (vM σ 64 0) p v V' ∧ ∀ τ, mS σ τ → Q (some (.inl (fitF V' (fun j => σ 61 ((40 * r).toNat + j)) k.toNat))) τ
  | _ => False
theorem rc_X8_isRead : ∀ a σ Q, S_X8_isRead a σ Q → ∃ (p : Nat) (r : List AV), a = .inr (.inl p) :: r ∧ p < 76 ∧ (SH p).1 = 4 ∧ (SH p).2.1 = 7 := by
  intro a σ Q h
  unfold S_X8_isRead at h
  split at h
  · exact ⟨58, _, rfl, by decide, rfl, rfl⟩
  · exact h.elim
def mT_X8_isRead (i : Nat) : Option (Nat × Bool × MSpec) := match i with
  | 147 => some (4, false, S_X8_copies)
  | 157 => some (1, false, S_X8_letterOf)
  | 163 => some (2, false, S_X8_nameOf)
  | 202 => some (2, true, S_X8_finds)
  | 221 => some (2, true, S_X8_chordOf)
  | _ => none
theorem mT_X8_isRead_ok {l : Launch} {n : Nat} (hn : 7 ≤ n) : ∀ i e, mT_X8_isRead i = some e → mV l (rmOf n) RX8 i e := by
  intro i e h
  unfold mT_X8_isRead at h
  split at h
  · cases h; exact mvS (lv := 0) mw_X8_copies (by omega) (by decide) (by decide +kernel) (Or.inl (gtm 912 (by decide +kernel) (by decide +kernel))) ok_X8_copies
  · cases h; exact mvS (lv := 1) mw_X8_letterOf (by omega) (by decide) (by decide +kernel) (Or.inl (gtm 963 (by decide +kernel) (by decide +kernel))) ok_X8_letterOf
  · cases h; exact mvS (lv := 2) mw_X8_nameOf (by omega) (by decide) (by decide +kernel) (Or.inl (gtm 979 (by decide +kernel) (by decide +kernel))) ok_X8_nameOf
  · cases h; exact mvI (lv := 6) (ci := 7) (T := TX8) (N := 28) mw_X8_finds rfl (by omega) (by decide) (by decide +kernel) (gtm 1001 (by decide +kernel) (by decide +kernel)) rc_X8_finds ok_X8_finds
  · cases h; exact mvI (lv := 0) (ci := 7) (T := TX8) (N := 28) mw_X8_chordOf rfl (by omega) (by decide) (by decide +kernel) (gtm 993 (by decide +kernel) (by decide +kernel)) rc_X8_chordOf ok_X8_chordOf
  · cases h
set_option maxRecDepth 100000 in
set_option maxHeartbeats 16000000 in
theorem ok_X8_isRead : ∀ l n, 7 ≤ n → ∀ a σ Q, S_X8_isRead a σ Q → AM l n yX8_isRead cX8_isRead 7 (some .boolean) a σ Q := by
  intro l n hn a σ Q hS
  unfold S_X8_isRead at hS
  split at hS
  rotate_left
  · exact hS.elim
  rename_i r k p v
  obtain ⟨hV, n1, r1, k1, hJ, V', hpl, hq⟩ := hS
  obtain ⟨V, hVe⟩ : ∃ V, V = vM σ 64 0 := ⟨_, rfl⟩
  simp only [← hVe] at hpl hV
  obtain ⟨v0, v1, v2⟩ := vM_0 σ 64
  rw [← hVe] at v0 v1 v2
  obtain ⟨o1, o2, o3, -, oc, on⟩ := id hV
  obtain ⟨s1, s2, s3, s4, s5, s6⟩ := plOk_s hV hpl
  have hnc : (ncV V : Int) = σ 64 1 := by unfold ncV; omega
  obtain ⟨N, hN⟩ : ∃ N : Nat, k = (N : Int) := ⟨k.toNat, by omega⟩
  obtain ⟨B, hB⟩ : ∃ B : Nat, 40 * r = (B : Int) := ⟨(40 * r).toNat, by omega⟩
  rw [hB, hN] at hq
  simp only [Int.toNat_natCast] at hq
  generalize hf : (fun j => σ 61 (B + j)) = f at hq
  have hfk : ∀ j : Nat, σ 61 ((B : Int) + (j : Int)).toNat = f j := fun j => by
    rw [← hf]
    show _ = σ 61 (B + j)
    congr 1
  have hfR : ∀ j, R32 (f j) := fun j => by rw [← hf]; exact hJ _
  obtain ⟨σ2, hσ2⟩ : ∃ σ2, σ2 = hset (hcpy σ 64 0 66 0 93) 66 p.toNat v := ⟨_, rfl⟩
  have hv2 : vM σ2 66 0 = V' := by rw [hσ2]; exact plOk_v hV hpl (by rw [tried_v (by omega) (by omega), hVe])
  obtain ⟨q0, q1, q2⟩ := vM_0 σ2 66
  rw [hv2] at q0 q1 q2
  refine am_ofF 2 cpX8 mT_X8_isRead (plainFor_of_name (by decide +kernel)) (rfl) (Nat.le_of_ble_eq_true rfl) (cpX8_ok) (mT_X8_isRead_ok hn) (fun K hK => ?_)
  have loop : ∀ τ, mS σ τ → τ 66 = σ2 66 → (∀ c, c < ncV V' → τ 72 c = winV V' c) → ∀ (d t : Nat), t + d = N → K 35 [some (.inr (.inl 58)), some (.inl r), some (.inl k), some (.inl p), some (.inl v), some (.inl (fitF V' f t)), some (.inl (t : Int))] [] τ := by
    intro τ hτ h66 h72 d
    have h64 := mS_64 hτ
    have h61 : τ 61 = σ 61 := hτ.1 61 (by unfold scP; omega)
    induction d with
    | zero =>
      intro t ht
      refine hK (fun q => q == 35) 100 _ _ _ _ ?_
      simp only [↓wp, ↓stp, ilen, lnth, st1, st2, nolong, nohead, rnth, ↓gfX, ↓pfX, gfV, pfV, cpF, cpP, cndZ, ↓tgo, ↓tsw, ↓lsw, ↓ldI, ↓ldA, ↓ldL, ↓stI, ↓stA, ↓stL, ↓bin, ↓binD, ↓binL, ↓binDL, ↓una, ↓acV, ↓acK, ↓acpy, ↓inv, entL, nones, List.length_cons, List.length_nil, List.take, List.drop, List.reverse_cons, List.reverse_nil, List.nil_append, List.cons_append, Option.toList_some, Option.toList_none, Nat.reduceAdd, Nat.reduceSub, Nat.reduceLT, Nat.reduceEqDiff, Fin.isValue, aTL, aSZ, Int.toNat_natCast, hset_same, hset_o, hset_s, hset_row, ne_eq, Nat.reduceBEq, beq_self_eq_true, Fin.val_zero, Fin.val_one, fin0, fin1, fin2, fin3, Nat.le_refl, Nat.reduceLeDiff, Nat.zero_le, Int.reduceAdd, Int.reduceNeg, Int.reduceLE, Int.reduceLT, Int.reduceToNat, Int.reduceMul, Int.cast_ofNat_Int, Nat.reduceMod, ↓reduceIte, if_true, if_false, and_true, true_and, or_true, true_or, false_or, or_false, and_self, not_true_eq_false, not_false_eq_true, Bool.false_eq_true, reduceCtorEq, false_implies, true_implies, implies_true, and_false, false_and, dX8_isRead_0, dX8_isRead_1, dX8_isRead_4, dX8_isRead_5, dX8_isRead_6, dX8_isRead_9, dX8_isRead_10, dX8_isRead_13, dX8_isRead_14, dX8_isRead_17, dX8_isRead_18, dX8_isRead_20, dX8_isRead_21, dX8_isRead_22, dX8_isRead_23, dX8_isRead_26, dX8_isRead_29, dX8_isRead_30, dX8_isRead_32, dX8_isRead_33, dX8_isRead_35, dX8_isRead_37, dX8_isRead_38, dX8_isRead_41, dX8_isRead_43, dX8_isRead_46, dX8_isRead_48, dX8_isRead_49, dX8_isRead_52, dX8_isRead_53, dX8_isRead_55, dX8_isRead_58, dX8_isRead_59, dX8_isRead_60, dX8_isRead_61, dX8_isRead_64, dX8_isRead_66, dX8_isRead_68, dX8_isRead_69, dX8_isRead_70, dX8_isRead_73, dX8_isRead_76, dX8_isRead_77, dX8_isRead_80, dX8_isRead_82, dX8_isRead_83, dX8_isRead_84, dX8_isRead_86, dX8_isRead_87, dX8_isRead_88, dX8_isRead_91, dX8_isRead_92, dX8_isRead_95, dX8_isRead_96, dX8_isRead_98, dX8_isRead_101, dX8_isRead_104, dX8_isRead_106, cpX8, mT_X8_isRead, SHl_58, SHl_59, SHl_60, SHl_61, SHl_62, SHl_63, SHl_64, SHl_65, SHl_66, SHl_67, SHl_68, SHl_69, SHl_70, SHl_71, SHl_72, SHl_73, SHl_74, SHl_75, S_X8_chordOf, S_X8_copies, S_X8_finds, S_X8_letterOf, S_X8_nameOf]
      have hq' := hq τ hτ
      rw [show N = t by omega] at hq'
      have h01 := fitF_01 V' f t
      exact ⟨⟨by omega, by omega⟩, ⟨by omega, by omega⟩, fun _ => ⟨by omega, hq'⟩, fun q => by omega⟩
    | succ d ih =>
      intro t ht
      have hx := ih (t + 1) (by omega)
      rw [fitF_s] at hx
      have h01 := fitF_01 V' f t
      obtain ⟨c, j, hc, hj, hcj⟩ := note_of s1 (n := t) (by omega)
      have oc' := s1.2.2.2.2.1 c (by unfold ncV at hc; omega)
      have hk6 := s1.2.2.2.2.2 t (by omega)
      have e6 : V' 6 t = σ2 66 (53 + t) := by rw [← hv2]; exact vM_n (by omega)
      have wl := winV_lt s1 (by omega) c hc
      have plb := plV_b s1 (c := c) (j := j) hc
      have hpl2 : namZ (-15 + (winV V' c : Int)) (σ2 66 (53 + t)) = plV V' c j := by
        rw [show -15 + (winV V' c : Int) = (winV V' c : Int) - 15 by omega, ← e6, hcj]
        rfl
      have hnl : nlV V' t = letZ (plV V' c j) := by rw [hcj]; exact nlV_eq s1 hc hj
      have hlb := letZ_b (plV V' c j)
      obtain ⟨g1, g2⟩ := hfR t
      have s5c := s5 c
      rw [hnl] at hx
      refine hK (fun q => q == 35) 100 _ _ _ _ ?_
      simp only [↓wp, ↓stp, ilen, lnth, st1, st2, nolong, nohead, rnth, ↓gfX, ↓pfX, gfV, pfV, cpF, cpP, cndZ, ↓tgo, ↓tsw, ↓lsw, ↓ldI, ↓ldA, ↓ldL, ↓stI, ↓stA, ↓stL, ↓bin, ↓binD, ↓binL, ↓binDL, ↓una, ↓acV, ↓acK, ↓acpy, ↓inv, entL, nones, List.length_cons, List.length_nil, List.take, List.drop, List.reverse_cons, List.reverse_nil, List.nil_append, List.cons_append, Option.toList_some, Option.toList_none, Nat.reduceAdd, Nat.reduceSub, Nat.reduceLT, Nat.reduceEqDiff, Fin.isValue, aTL, aSZ, Int.toNat_natCast, hset_same, hset_o, hset_s, hset_row, ne_eq, Nat.reduceBEq, beq_self_eq_true, Fin.val_zero, Fin.val_one, fin0, fin1, fin2, fin3, Nat.le_refl, Nat.reduceLeDiff, Nat.zero_le, Int.reduceAdd, Int.reduceNeg, Int.reduceLE, Int.reduceLT, Int.reduceToNat, Int.reduceMul, Int.cast_ofNat_Int, Nat.reduceMod, ↓reduceIte, if_true, if_false, and_true, true_and, or_true, true_or, false_or, or_false, and_self, not_true_eq_false, not_false_eq_true, Bool.false_eq_true, reduceCtorEq, false_implies, true_implies, implies_true, and_false, false_and, dX8_isRead_0, dX8_isRead_1, dX8_isRead_4, dX8_isRead_5, dX8_isRead_6, dX8_isRead_9, dX8_isRead_10, dX8_isRead_13, dX8_isRead_14, dX8_isRead_17, dX8_isRead_18, dX8_isRead_20, dX8_isRead_21, dX8_isRead_22, dX8_isRead_23, dX8_isRead_26, dX8_isRead_29, dX8_isRead_30, dX8_isRead_32, dX8_isRead_33, dX8_isRead_35, dX8_isRead_37, dX8_isRead_38, dX8_isRead_41, dX8_isRead_43, dX8_isRead_46, dX8_isRead_48, dX8_isRead_49, dX8_isRead_52, dX8_isRead_53, dX8_isRead_55, dX8_isRead_58, dX8_isRead_59, dX8_isRead_60, dX8_isRead_61, dX8_isRead_64, dX8_isRead_66, dX8_isRead_68, dX8_isRead_69, dX8_isRead_70, dX8_isRead_73, dX8_isRead_76, dX8_isRead_77, dX8_isRead_80, dX8_isRead_82, dX8_isRead_83, dX8_isRead_84, dX8_isRead_86, dX8_isRead_87, dX8_isRead_88, dX8_isRead_91, dX8_isRead_92, dX8_isRead_95, dX8_isRead_96, dX8_isRead_98, dX8_isRead_101, dX8_isRead_104, dX8_isRead_106, cpX8, mT_X8_isRead, SHl_58, SHl_59, SHl_60, SHl_61, SHl_62, SHl_63, SHl_64, SHl_65, SHl_66, SHl_67, SHl_68, SHl_69, SHl_70, SHl_71, SHl_72, SHl_73, SHl_74, SHl_75, S_X8_chordOf, S_X8_copies, S_X8_finds, S_X8_letterOf, S_X8_nameOf]
      rw [vM_only h64, ← hVe, h66, h61, hB, hfk, show (53 + (t : Int)).toNat = 53 + t by omega]
      refine ⟨⟨by omega, by omega⟩, ⟨by omega, by omega⟩, fun q => by omega, fun _ => ⟨⟨by omega, by omega⟩, fun q => ?_, fun q => ⟨hV, c, by omega, by omega, by omega, by omega, by omega, by omega, by omega, ?_⟩⟩⟩
      · rw [if_neg (by omega)] at hx
        exact hx
      · rw [h72 c hc, hpl2, ← e6]
        refine ⟨⟨by omega, by omega⟩, hk6, ⟨by omega, by omega⟩, by omega, by omega, ⟨by omega, by omega⟩, ⟨g1, g2⟩, fun z => ?_, fun z => ?_⟩
        · rw [if_neg (fun y => z y.2)] at hx
          exact hx
        · rw [if_pos ⟨by omega, Classical.not_not.mp z⟩] at hx
          exact hx
  refine hK (fun q => q == 35) 100 _ _ _ _ ?_
  simp only [↓wp, ↓stp, ilen, lnth, st1, st2, nolong, nohead, rnth, ↓gfX, ↓pfX, gfV, pfV, cpF, cpP, cndZ, ↓tgo, ↓tsw, ↓lsw, ↓ldI, ↓ldA, ↓ldL, ↓stI, ↓stA, ↓stL, ↓bin, ↓binD, ↓binL, ↓binDL, ↓una, ↓acV, ↓acK, ↓acpy, ↓inv, entL, nones, List.length_cons, List.length_nil, List.take, List.drop, List.reverse_cons, List.reverse_nil, List.nil_append, List.cons_append, Option.toList_some, Option.toList_none, Nat.reduceAdd, Nat.reduceSub, Nat.reduceLT, Nat.reduceEqDiff, Fin.isValue, aTL, aSZ, Int.toNat_natCast, hset_same, hset_o, hset_s, hset_row, ne_eq, Nat.reduceBEq, beq_self_eq_true, Fin.val_zero, Fin.val_one, fin0, fin1, fin2, fin3, Nat.le_refl, Nat.reduceLeDiff, Nat.zero_le, Int.reduceAdd, Int.reduceNeg, Int.reduceLE, Int.reduceLT, Int.reduceToNat, Int.reduceMul, Int.cast_ofNat_Int, Nat.reduceMod, ↓reduceIte, if_true, if_false, and_true, true_and, or_true, true_or, false_or, or_false, and_self, not_true_eq_false, not_false_eq_true, Bool.false_eq_true, reduceCtorEq, false_implies, true_implies, implies_true, and_false, false_and, dX8_isRead_0, dX8_isRead_1, dX8_isRead_4, dX8_isRead_5, dX8_isRead_6, dX8_isRead_9, dX8_isRead_10, dX8_isRead_13, dX8_isRead_14, dX8_isRead_17, dX8_isRead_18, dX8_isRead_20, dX8_isRead_21, dX8_isRead_22, dX8_isRead_23, dX8_isRead_26, dX8_isRead_29, dX8_isRead_30, dX8_isRead_32, dX8_isRead_33, dX8_isRead_35, dX8_isRead_37, dX8_isRead_38, dX8_isRead_41, dX8_isRead_43, dX8_isRead_46, dX8_isRead_48, dX8_isRead_49, dX8_isRead_52, dX8_isRead_53, dX8_isRead_55, dX8_isRead_58, dX8_isRead_59, dX8_isRead_60, dX8_isRead_61, dX8_isRead_64, dX8_isRead_66, dX8_isRead_68, dX8_isRead_69, dX8_isRead_70, dX8_isRead_73, dX8_isRead_76, dX8_isRead_77, dX8_isRead_80, dX8_isRead_82, dX8_isRead_83, dX8_isRead_84, dX8_isRead_86, dX8_isRead_87, dX8_isRead_88, dX8_isRead_91, dX8_isRead_92, dX8_isRead_95, dX8_isRead_96, dX8_isRead_98, dX8_isRead_101, dX8_isRead_104, dX8_isRead_106, cpX8, mT_X8_isRead, SHl_58, SHl_59, SHl_60, SHl_61, SHl_62, SHl_63, SHl_64, SHl_65, SHl_66, SHl_67, SHl_68, SHl_69, SHl_70, SHl_71, SHl_72, SHl_73, SHl_74, SHl_75, S_X8_chordOf, S_X8_copies, S_X8_finds, S_X8_letterOf, S_X8_nameOf]
  rw [← hσ2, hv2]
  refine ⟨93, 93, rfl, rfl, by omega, by omega, by omega, by omega, by omega, isW_66, s1, by omega, fun τ hτ => ?_⟩
  refine loop τ ⟨fun q hqq => ?_, fun j hj => ?_⟩ (hτ.1 66 (by unfold fdP; omega)) hτ.2.2.2.1 N 0 (by omega)
  · rw [hτ.1 q (by unfold fdP; unfold scP at hqq; omega), hσ2, hset_row (by unfold scP at hqq; omega), hcpy_f (by unfold scP at hqq; omega)]
  · rw [hτ.2.1 j hj, hσ2, hset_o (by decide), hcpy_f (by decide)]
/-- bits by what fits -/
def orF (g : Nat → Int) (lo : Nat) : Nat → Int
  | 0 => 0
  | k + 1 => zor (orF g lo k) (if g (lo + k) = 1 then zshl 1 ((lo + k : Nat) : Int) else 0)
theorem orF_s (g : Nat → Int) (lo k : Nat) : orF g lo (k + 1) = zor (orF g lo k) (if g (lo + k) = 1 then zshl 1 ((lo + k : Nat) : Int) else 0) := rfl
theorem i32_R (x : Int32) : R32 x.toInt := ⟨Int32.le_toInt x, Int32.toInt_lt x⟩
theorem orF_R (g : Nat → Int) (lo : Nat) : ∀ k, R32 (orF g lo k)
  | 0 => ⟨by show (-2147483648 : Int) ≤ 0; omega, by show (0 : Int) < 2147483648; omega⟩
  | k + 1 => i32_R _
/-- the piece otherwise at one place -/
def ftU (V : HP) (c : Nat) (w : Int) (v : Int) : HP := if w = 0 then hset V 0 0 v else if w = 1 then hset V 1 c v else hset V 6 (V 4 c).toNat v
def ftZ (V : HP) (c : Nat) (w : Int) (f : Nat → Int) (n : Nat) : Int := orF (fun v => fitF (ftU V c w v) f n) (if w = 1 then 1 else 0) (if w = 0 then 15 else if w = 1 then 5 else 12)
def S_X8_fits : MSpec := fun a σ Q => match a with
  | [.inr (.inl 58), .inl c, .inl r, .inl k, .inl w] => R32 c ∧ R32 r ∧ R32 k ∧ R32 w ∧ okV (vM σ 64 0) ∧ (∀ r, r < 8 → R32 (σ 59 r) ∧ (0 ≤ σ 60 r ∧ σ 60 r ≤ 40)) ∧ (∀ j, R32 (σ 61 j)) ∧ (if ¬ (0 ≤ c ∧ c < σ 64 1) ∨ ¬ (0 ≤ r ∧ r ≤ 7) ∨ ¬ (1 ≤ k ∧ k ≤ σ 64 2) ∨ ¬ (0 ≤ w ∧ w ≤ 2) then Q (some (.inl (-1000001))) σ else if σ 59 r.toNat = -1000000 then Q (some (.inl (-1000011))) (hset σ 58 4 1) else if ¬ (k ≤ σ 60 r.toNat) then Q (some (.inl (-1000012))) (hset σ 58 4 2) else ∀ τ, mS σ τ → Q (some (.inl (ftZ (vM σ 64 0) c.toNat w (fun j => σ 61 ((40 * r).toNat + j)) k.toNat))) (hset τ 58 4 0))
  | _ => False
theorem rc_X8_fits : ∀ a σ Q, S_X8_fits a σ Q → ∃ (p : Nat) (r : List AV), a = .inr (.inl p) :: r ∧ p < 76 ∧ (SH p).1 = 4 ∧ (SH p).2.1 = 7 := by
  intro a σ Q h
  unfold S_X8_fits at h
  split at h
  · exact ⟨58, _, rfl, by decide, rfl, rfl⟩
  · exact h.elim
def mT_X8_fits (i : Nat) : Option (Nat × Bool × MSpec) := match i with
  | 68 => some (3, false, S_X8_in)
  | 72 => some (1, false, S_X8_isRow)
  | 77 => some (2, true, S_X8_found)
  | 81 => some (2, true, S_X8_well)
  | 84 => some (2, true, S_X8_isMissing)
  | 91 => some (4, true, S_X8_isPart)
  | 212 => some (2, true, S_X8_isChord)
  | 247 => some (5, true, S_X8_isRead)
  | _ => none
theorem mT_X8_fits_ok {l : Launch} {n : Nat} (hn : 8 ≤ n) : ∀ i e, mT_X8_fits i = some e → mV l (rmOf n) RX8 i e := by
  intro i e h
  unfold mT_X8_fits at h
  split at h
  · cases h; exact mvS (lv := 0) mw_X8_in (by omega) (by decide) (by decide +kernel) (Or.inl (gtm 831 (by decide +kernel) (by decide +kernel))) ok_X8_in
  · cases h; exact mvS (lv := 1) mw_X8_isRow (by omega) (by decide) (by decide +kernel) (Or.inl (gtm 828 (by decide +kernel) (by decide +kernel))) ok_X8_isRow
  · cases h; exact mvI (lv := 0) (ci := 7) (T := TX8) (N := 28) mw_X8_found rfl (by omega) (by decide) (by decide +kernel) (gtm 835 (by decide +kernel) (by decide +kernel)) rc_X8_found ok_X8_found
  · cases h; exact mvI (lv := 0) (ci := 7) (T := TX8) (N := 28) mw_X8_well rfl (by omega) (by decide) (by decide +kernel) (gtm 840 (by decide +kernel) (by decide +kernel)) rc_X8_well ok_X8_well
  · cases h; exact mvI (lv := 0) (ci := 7) (T := TX8) (N := 28) mw_X8_isMissing rfl (by omega) (by decide) (by decide +kernel) (gtm 848 (by decide +kernel) (by decide +kernel)) rc_X8_isMissing ok_X8_isMissing
  · cases h; exact mvI (lv := 0) (ci := 7) (T := TX8) (N := 28) mw_X8_isPart rfl (by omega) (by decide) (by decide +kernel) (gtm 859 (by decide +kernel) (by decide +kernel)) rc_X8_isPart ok_X8_isPart
  · cases h; exact mvI (lv := 1) (ci := 7) (T := TX8) (N := 28) mw_X8_isChord rfl (by omega) (by decide) (by decide +kernel) (gtm 936 (by decide +kernel) (by decide +kernel)) rc_X8_isChord ok_X8_isChord
  · cases h; exact mvI (lv := 7) (ci := 7) (T := TX8) (N := 28) mw_X8_isRead rfl (by omega) (by decide) (by decide +kernel) (gtm 1072 (by decide +kernel) (by decide +kernel)) rc_X8_isRead ok_X8_isRead
  · cases h
set_option maxRecDepth 100000 in
set_option maxHeartbeats 16000000 in
theorem ok_X8_fits : ∀ l n, 8 ≤ n → ∀ a σ Q, S_X8_fits a σ Q → AM l n yX8_fits cX8_fits 8 (some .int) a σ Q := by
  intro l n hn a σ Q hS
  unfold S_X8_fits at hS
  split at hS
  rotate_left
  · exact hS.elim
  rename_i c r k w
  obtain ⟨⟨c1, c2⟩, ⟨r1, r2⟩, ⟨k1, k2⟩, ⟨w1, w2⟩, hV, hI, hJ, hq⟩ := hS
  obtain ⟨V, hVe⟩ : ∃ V, V = vM σ 64 0 := ⟨_, rfl⟩
  simp only [← hVe] at hq hV
  obtain ⟨v0, v1, v2⟩ := vM_0 σ 64
  rw [← hVe] at v0 v1 v2
  obtain ⟨o1, o2, o3, -, oc, on⟩ := id hV
  refine am_ofF 1 cpX8 mT_X8_fits (plainFor_of_name (by decide +kernel)) (rfl) (Nat.le_of_ble_eq_true rfl) (cpX8_ok) (mT_X8_fits_ok hn) (fun K hK => ?_)
  have main : (0 ≤ c ∧ c < σ 64 1) → (0 ≤ r ∧ r ≤ 7) → (1 ≤ k ∧ k ≤ σ 64 2) → (0 ≤ w ∧ w ≤ 2) → ¬ σ 59 r.toNat = -1000000 → k ≤ σ 60 r.toNat → ∀ p : Int, (w = 0 → p = 0) → (w = 1 → p = 3 + 5 * c) → (w = 2 → p = 53 + σ 64 (3 + 5 * c + 1).toNat) → K 128 [some (.inr (.inl 58)), some (.inl c), some (.inl r), some (.inl k), some (.inl w), some (.inl p), some (.inl 0), some (.inl (if w = 1 then 1 else 0))] [] σ := by
    intro b1 b2 b3 b4 b5 b6 p p0 p1 p2
    rw [if_neg (by omega), if_neg b5, if_neg (by omega)] at hq
    obtain ⟨C, hC⟩ : ∃ C : Nat, c = (C : Int) := ⟨c.toNat, by omega⟩
    have occ := oc C (by omega)
    obtain ⟨e1, e2, e3, e4, e5⟩ := vM_c (σ := σ) (w := 64) (c := C) (by omega)
    rw [← hVe] at e1 e2 e3 e4 e5
    rw [hC, Int.toNat_natCast] at hq
    rw [hC, ix1, ← e4] at p2
    obtain ⟨lo, hlo⟩ : ∃ lo : Nat, lo = if w = 1 then 1 else 0 := ⟨_, rfl⟩
    obtain ⟨T, hT⟩ : ∃ T : Nat, T = if w = 0 then 15 else if w = 1 then 5 else 12 := ⟨_, rfl⟩
    have hlT : (w = 0 ∧ lo = 0 ∧ T = 15) ∨ (w = 1 ∧ lo = 1 ∧ T = 5) ∨ (w = 2 ∧ lo = 0 ∧ T = 12) := by
      rcases (show w = 0 ∨ w = 1 ∨ w = 2 by omega) with h | h | h
      · left; rw [hlo, hT]; simp [h]
      · right; left; rw [hlo, hT]; simp [h]
      · right; right; rw [hlo, hT]; simp [h]
    have hpo : ∀ v : Nat, lo ≤ v → v < lo + T → plOk V p (v : Int) (ftU V C w (v : Int)) := by
      intro v h1 h2
      unfold ftU
      rcases hlT with ⟨hw, _, _⟩ | ⟨hw, _, _⟩ | ⟨hw, _, _⟩
      · rw [if_pos hw]
        exact Or.inl ⟨p0 hw, by omega, rfl⟩
      · rw [if_neg (by omega), if_pos hw]
        exact Or.inr (Or.inl ⟨C, by unfold ncV; omega, by rw [p1 hw, hC], by omega, rfl⟩)
      · rw [if_neg (by omega), if_neg (by omega)]
        refine Or.inr (Or.inr ⟨(V 4 C).toNat, by omega, ?_, by omega, rfl⟩)
        rw [p2 hw]
        omega
    unfold ftZ at hq
    rw [← hT, ← hlo] at hq
    generalize hf : (fun j => σ 61 ((40 * r).toNat + j)) = f at hq
    have loop : ∀ (d t : Nat), t + d = T → ∀ τ, mS σ τ → K 128 [some (.inr (.inl 58)), some (.inl c), some (.inl r), some (.inl k), some (.inl w), some (.inl p), some (.inl (orF (fun v => fitF (ftU V C w v) f k.toNat) lo t)), some (.inl (((lo + t : Nat)) : Int))] [] τ := by
      intro d
      induction d with
      | zero =>
        intro t ht τ hτ
        refine hK (fun q => q == 128) 100 _ _ _ _ ?_
        simp only [↓wp, ↓stp, ilen, lnth, st1, st2, nolong, nohead, rnth, ↓gfX, ↓pfX, gfV, pfV, cpF, cpP, cndZ, ↓tgo, ↓tsw, ↓lsw, ↓ldI, ↓ldA, ↓ldL, ↓stI, ↓stA, ↓stL, ↓bin, ↓binD, ↓binL, ↓binDL, ↓una, ↓acV, ↓acK, ↓acpy, ↓inv, entL, nones, List.length_cons, List.length_nil, List.take, List.drop, List.reverse_cons, List.reverse_nil, List.nil_append, List.cons_append, Option.toList_some, Option.toList_none, Nat.reduceAdd, Nat.reduceSub, Nat.reduceLT, Nat.reduceEqDiff, Fin.isValue, aTL, aSZ, Int.toNat_natCast, hset_same, hset_o, hset_s, hset_row, ne_eq, Nat.reduceBEq, beq_self_eq_true, Fin.val_zero, Fin.val_one, fin0, fin1, fin2, fin3, Nat.le_refl, Nat.reduceLeDiff, Nat.zero_le, Int.reduceAdd, Int.reduceNeg, Int.reduceLE, Int.reduceLT, Int.reduceToNat, Int.reduceMul, Int.cast_ofNat_Int, Nat.reduceMod, ↓reduceIte, if_true, if_false, and_true, true_and, or_true, true_or, false_or, or_false, and_self, not_true_eq_false, not_false_eq_true, Bool.false_eq_true, reduceCtorEq, false_implies, true_implies, implies_true, and_false, false_and, dX8_fits_0, dX8_fits_1, dX8_fits_2, dX8_fits_5, dX8_fits_8, dX8_fits_9, dX8_fits_12, dX8_fits_15, dX8_fits_16, dX8_fits_17, dX8_fits_18, dX8_fits_21, dX8_fits_22, dX8_fits_23, dX8_fits_26, dX8_fits_29, dX8_fits_31, dX8_fits_32, dX8_fits_33, dX8_fits_36, dX8_fits_39, dX8_fits_41, dX8_fits_42, dX8_fits_43, dX8_fits_44, dX8_fits_47, dX8_fits_50, dX8_fits_51, dX8_fits_52, dX8_fits_55, dX8_fits_56, dX8_fits_57, dX8_fits_58, dX8_fits_59, dX8_fits_60, dX8_fits_63, dX8_fits_66, dX8_fits_67, dX8_fits_68, dX8_fits_71, dX8_fits_72, dX8_fits_74, dX8_fits_77, dX8_fits_78, dX8_fits_81, dX8_fits_83, dX8_fits_84, dX8_fits_87, dX8_fits_88, dX8_fits_89, dX8_fits_90, dX8_fits_91, dX8_fits_92, dX8_fits_95, dX8_fits_97, dX8_fits_98, dX8_fits_101, dX8_fits_102, dX8_fits_103, dX8_fits_104, dX8_fits_105, dX8_fits_106, dX8_fits_107, dX8_fits_108, dX8_fits_109, dX8_fits_110, dX8_fits_112, dX8_fits_113, dX8_fits_115, dX8_fits_117, dX8_fits_118, dX8_fits_121, dX8_fits_122, dX8_fits_125, dX8_fits_126, dX8_fits_128, dX8_fits_130, dX8_fits_132, dX8_fits_135, dX8_fits_137, dX8_fits_140, dX8_fits_142, dX8_fits_143, dX8_fits_146, dX8_fits_147, dX8_fits_150, dX8_fits_152, dX8_fits_155, dX8_fits_157, dX8_fits_158, dX8_fits_159, dX8_fits_160, dX8_fits_162, dX8_fits_164, dX8_fits_167, dX8_fits_170, dX8_fits_171, dX8_fits_173, dX8_fits_174, dX8_fits_177, dX8_fits_178, dX8_fits_179, dX8_fits_181, dX8_fits_184, dX8_fits_187, dX8_fits_188, dX8_fits_190, dX8_fits_193, cpX8, mT_X8_fits, SHl_58, SHl_59, SHl_60, SHl_61, SHl_62, SHl_63, SHl_64, SHl_65, SHl_66, SHl_67, SHl_68, SHl_69, SHl_70, SHl_71, SHl_72, SHl_73, SHl_74, SHl_75, S_X8_found, S_X8_in, S_X8_isChord, S_X8_isMissing, S_X8_isPart, S_X8_isRead, S_X8_isRow, S_X8_well]
        have hq' := hq τ hτ
        rw [show T = t by omega] at hq'
        (repeat' (first | exact hq' | apply And.intro | intro _)) <;> omega
      | succ d ih =>
        intro t ht τ hτ
        have hx := ih (t + 1) (by omega)
        rw [orF_s] at hx
        have h64 := mS_64 hτ
        have h61 : τ 61 = σ 61 := hτ.1 61 (by unfold scP; omega)
        have h01 := fitF_01 (ftU V C w ((lo + t : Nat) : Int)) f k.toNat
        have hf2 : (fun j => τ 61 ((40 * r).toNat + j)) = f := by rw [h61]; exact hf
        have body : K 155 [some (.inr (.inl 58)), some (.inl c), some (.inl r), some (.inl k), some (.inl w), some (.inl p), some (.inl (orF (fun v => fitF (ftU V C w v) f k.toNat) lo t)), some (.inl (((lo + t : Nat)) : Int))] [] τ := by
          refine hK (fun q => q == 128 || q == 155) 100 _ _ _ _ ?_
          simp only [↓wp, ↓stp, ilen, lnth, st1, st2, nolong, nohead, rnth, ↓gfX, ↓pfX, gfV, pfV, cpF, cpP, cndZ, ↓tgo, ↓tsw, ↓lsw, ↓ldI, ↓ldA, ↓ldL, ↓stI, ↓stA, ↓stL, ↓bin, ↓binD, ↓binL, ↓binDL, ↓una, ↓acV, ↓acK, ↓acpy, ↓inv, entL, nones, List.length_cons, List.length_nil, List.take, List.drop, List.reverse_cons, List.reverse_nil, List.nil_append, List.cons_append, Option.toList_some, Option.toList_none, Nat.reduceAdd, Nat.reduceSub, Nat.reduceLT, Nat.reduceEqDiff, Fin.isValue, aTL, aSZ, Int.toNat_natCast, hset_same, hset_o, hset_s, hset_row, ne_eq, Nat.reduceBEq, beq_self_eq_true, Fin.val_zero, Fin.val_one, fin0, fin1, fin2, fin3, Nat.le_refl, Nat.reduceLeDiff, Nat.zero_le, Int.reduceAdd, Int.reduceNeg, Int.reduceLE, Int.reduceLT, Int.reduceToNat, Int.reduceMul, Int.cast_ofNat_Int, Nat.reduceMod, ↓reduceIte, if_true, if_false, and_true, true_and, or_true, true_or, false_or, or_false, and_self, not_true_eq_false, not_false_eq_true, Bool.false_eq_true, reduceCtorEq, false_implies, true_implies, implies_true, and_false, false_and, dX8_fits_0, dX8_fits_1, dX8_fits_2, dX8_fits_5, dX8_fits_8, dX8_fits_9, dX8_fits_12, dX8_fits_15, dX8_fits_16, dX8_fits_17, dX8_fits_18, dX8_fits_21, dX8_fits_22, dX8_fits_23, dX8_fits_26, dX8_fits_29, dX8_fits_31, dX8_fits_32, dX8_fits_33, dX8_fits_36, dX8_fits_39, dX8_fits_41, dX8_fits_42, dX8_fits_43, dX8_fits_44, dX8_fits_47, dX8_fits_50, dX8_fits_51, dX8_fits_52, dX8_fits_55, dX8_fits_56, dX8_fits_57, dX8_fits_58, dX8_fits_59, dX8_fits_60, dX8_fits_63, dX8_fits_66, dX8_fits_67, dX8_fits_68, dX8_fits_71, dX8_fits_72, dX8_fits_74, dX8_fits_77, dX8_fits_78, dX8_fits_81, dX8_fits_83, dX8_fits_84, dX8_fits_87, dX8_fits_88, dX8_fits_89, dX8_fits_90, dX8_fits_91, dX8_fits_92, dX8_fits_95, dX8_fits_97, dX8_fits_98, dX8_fits_101, dX8_fits_102, dX8_fits_103, dX8_fits_104, dX8_fits_105, dX8_fits_106, dX8_fits_107, dX8_fits_108, dX8_fits_109, dX8_fits_110, dX8_fits_112, dX8_fits_113, dX8_fits_115, dX8_fits_117, dX8_fits_118, dX8_fits_121, dX8_fits_122, dX8_fits_125, dX8_fits_126, dX8_fits_128, dX8_fits_130, dX8_fits_132, dX8_fits_135, dX8_fits_137, dX8_fits_140, dX8_fits_142, dX8_fits_143, dX8_fits_146, dX8_fits_147, dX8_fits_150, dX8_fits_152, dX8_fits_155, dX8_fits_157, dX8_fits_158, dX8_fits_159, dX8_fits_160, dX8_fits_162, dX8_fits_164, dX8_fits_167, dX8_fits_170, dX8_fits_171, dX8_fits_173, dX8_fits_174, dX8_fits_177, dX8_fits_178, dX8_fits_179, dX8_fits_181, dX8_fits_184, dX8_fits_187, dX8_fits_188, dX8_fits_190, dX8_fits_193, cpX8, mT_X8_fits, SHl_58, SHl_59, SHl_60, SHl_61, SHl_62, SHl_63, SHl_64, SHl_65, SHl_66, SHl_67, SHl_68, SHl_69, SHl_70, SHl_71, SHl_72, SHl_73, SHl_74, SHl_75, S_X8_found, S_X8_in, S_X8_isChord, S_X8_isMissing, S_X8_isPart, S_X8_isRead, S_X8_isRow, S_X8_well, Bool.or_true, Bool.or_false, Bool.true_or, Bool.false_or]
          rw [hf2, vM_only h64, ← hVe, h64]
          refine ⟨hV, by omega, by omega, by omega, fun j => by rw [h61]; exact hJ j, ftU V C w ((lo + t : Nat) : Int), hpo _ (by omega) (by omega), fun ρ hρ => ?_⟩
          have hx2 := hx ρ (mS_tr hτ hρ)
          rcases h01 with h | h
          · rw [h]
            rw [if_neg (by rw [h]; omega)] at hx2
            (repeat' (first | exact hx2 | apply And.intro | intro _)) <;> first | omega | (exfalso; omega)
          · rw [h]
            rw [if_pos h] at hx2
            (repeat' (first | exact hx2 | apply And.intro | intro _)) <;> first | omega | (exfalso; omega)
        refine hK (fun q => q == 128 || q == 155) 100 _ _ _ _ ?_
        simp only [↓wp, ↓stp, ilen, lnth, st1, st2, nolong, nohead, rnth, ↓gfX, ↓pfX, gfV, pfV, cpF, cpP, cndZ, ↓tgo, ↓tsw, ↓lsw, ↓ldI, ↓ldA, ↓ldL, ↓stI, ↓stA, ↓stL, ↓bin, ↓binD, ↓binL, ↓binDL, ↓una, ↓acV, ↓acK, ↓acpy, ↓inv, entL, nones, List.length_cons, List.length_nil, List.take, List.drop, List.reverse_cons, List.reverse_nil, List.nil_append, List.cons_append, Option.toList_some, Option.toList_none, Nat.reduceAdd, Nat.reduceSub, Nat.reduceLT, Nat.reduceEqDiff, Fin.isValue, aTL, aSZ, Int.toNat_natCast, hset_same, hset_o, hset_s, hset_row, ne_eq, Nat.reduceBEq, beq_self_eq_true, Fin.val_zero, Fin.val_one, fin0, fin1, fin2, fin3, Nat.le_refl, Nat.reduceLeDiff, Nat.zero_le, Int.reduceAdd, Int.reduceNeg, Int.reduceLE, Int.reduceLT, Int.reduceToNat, Int.reduceMul, Int.cast_ofNat_Int, Nat.reduceMod, ↓reduceIte, if_true, if_false, and_true, true_and, or_true, true_or, false_or, or_false, and_self, not_true_eq_false, not_false_eq_true, Bool.false_eq_true, reduceCtorEq, false_implies, true_implies, implies_true, and_false, false_and, dX8_fits_0, dX8_fits_1, dX8_fits_2, dX8_fits_5, dX8_fits_8, dX8_fits_9, dX8_fits_12, dX8_fits_15, dX8_fits_16, dX8_fits_17, dX8_fits_18, dX8_fits_21, dX8_fits_22, dX8_fits_23, dX8_fits_26, dX8_fits_29, dX8_fits_31, dX8_fits_32, dX8_fits_33, dX8_fits_36, dX8_fits_39, dX8_fits_41, dX8_fits_42, dX8_fits_43, dX8_fits_44, dX8_fits_47, dX8_fits_50, dX8_fits_51, dX8_fits_52, dX8_fits_55, dX8_fits_56, dX8_fits_57, dX8_fits_58, dX8_fits_59, dX8_fits_60, dX8_fits_63, dX8_fits_66, dX8_fits_67, dX8_fits_68, dX8_fits_71, dX8_fits_72, dX8_fits_74, dX8_fits_77, dX8_fits_78, dX8_fits_81, dX8_fits_83, dX8_fits_84, dX8_fits_87, dX8_fits_88, dX8_fits_89, dX8_fits_90, dX8_fits_91, dX8_fits_92, dX8_fits_95, dX8_fits_97, dX8_fits_98, dX8_fits_101, dX8_fits_102, dX8_fits_103, dX8_fits_104, dX8_fits_105, dX8_fits_106, dX8_fits_107, dX8_fits_108, dX8_fits_109, dX8_fits_110, dX8_fits_112, dX8_fits_113, dX8_fits_115, dX8_fits_117, dX8_fits_118, dX8_fits_121, dX8_fits_122, dX8_fits_125, dX8_fits_126, dX8_fits_128, dX8_fits_130, dX8_fits_132, dX8_fits_135, dX8_fits_137, dX8_fits_140, dX8_fits_142, dX8_fits_143, dX8_fits_146, dX8_fits_147, dX8_fits_150, dX8_fits_152, dX8_fits_155, dX8_fits_157, dX8_fits_158, dX8_fits_159, dX8_fits_160, dX8_fits_162, dX8_fits_164, dX8_fits_167, dX8_fits_170, dX8_fits_171, dX8_fits_173, dX8_fits_174, dX8_fits_177, dX8_fits_178, dX8_fits_179, dX8_fits_181, dX8_fits_184, dX8_fits_187, dX8_fits_188, dX8_fits_190, dX8_fits_193, cpX8, mT_X8_fits, SHl_58, SHl_59, SHl_60, SHl_61, SHl_62, SHl_63, SHl_64, SHl_65, SHl_66, SHl_67, SHl_68, SHl_69, SHl_70, SHl_71, SHl_72, SHl_73, SHl_74, SHl_75, S_X8_found, S_X8_in, S_X8_isChord, S_X8_isMissing, S_X8_isPart, S_X8_isRead, S_X8_isRow, S_X8_well, Bool.or_true, Bool.or_false, Bool.true_or, Bool.false_or]
        (repeat' (first | exact body | apply And.intro | intro _)) <;> omega
    have hx := loop T 0 (by omega) σ (mS_rf σ)
    rw [show ((lo + 0 : Nat) : Int) = (if w = 1 then 1 else 0 : Int) by rw [hlo]; split <;> rfl] at hx
    exact hx
  refine hK (fun q => q == 128 || q == 155) 200 _ _ _ _ ?_
  simp only [↓wp, ↓stp, ilen, lnth, st1, st2, nolong, nohead, rnth, ↓gfX, ↓pfX, gfV, pfV, cpF, cpP, cndZ, ↓tgo, ↓tsw, ↓lsw, ↓ldI, ↓ldA, ↓ldL, ↓stI, ↓stA, ↓stL, ↓bin, ↓binD, ↓binL, ↓binDL, ↓una, ↓acV, ↓acK, ↓acpy, ↓inv, entL, nones, List.length_cons, List.length_nil, List.take, List.drop, List.reverse_cons, List.reverse_nil, List.nil_append, List.cons_append, Option.toList_some, Option.toList_none, Nat.reduceAdd, Nat.reduceSub, Nat.reduceLT, Nat.reduceEqDiff, Fin.isValue, aTL, aSZ, Int.toNat_natCast, hset_same, hset_o, hset_s, hset_row, ne_eq, Nat.reduceBEq, beq_self_eq_true, Fin.val_zero, Fin.val_one, fin0, fin1, fin2, fin3, Nat.le_refl, Nat.reduceLeDiff, Nat.zero_le, Int.reduceAdd, Int.reduceNeg, Int.reduceLE, Int.reduceLT, Int.reduceToNat, Int.reduceMul, Int.cast_ofNat_Int, Nat.reduceMod, ↓reduceIte, if_true, if_false, and_true, true_and, or_true, true_or, false_or, or_false, and_self, not_true_eq_false, not_false_eq_true, Bool.false_eq_true, reduceCtorEq, false_implies, true_implies, implies_true, and_false, false_and, dX8_fits_0, dX8_fits_1, dX8_fits_2, dX8_fits_5, dX8_fits_8, dX8_fits_9, dX8_fits_12, dX8_fits_15, dX8_fits_16, dX8_fits_17, dX8_fits_18, dX8_fits_21, dX8_fits_22, dX8_fits_23, dX8_fits_26, dX8_fits_29, dX8_fits_31, dX8_fits_32, dX8_fits_33, dX8_fits_36, dX8_fits_39, dX8_fits_41, dX8_fits_42, dX8_fits_43, dX8_fits_44, dX8_fits_47, dX8_fits_50, dX8_fits_51, dX8_fits_52, dX8_fits_55, dX8_fits_56, dX8_fits_57, dX8_fits_58, dX8_fits_59, dX8_fits_60, dX8_fits_63, dX8_fits_66, dX8_fits_67, dX8_fits_68, dX8_fits_71, dX8_fits_72, dX8_fits_74, dX8_fits_77, dX8_fits_78, dX8_fits_81, dX8_fits_83, dX8_fits_84, dX8_fits_87, dX8_fits_88, dX8_fits_89, dX8_fits_90, dX8_fits_91, dX8_fits_92, dX8_fits_95, dX8_fits_97, dX8_fits_98, dX8_fits_101, dX8_fits_102, dX8_fits_103, dX8_fits_104, dX8_fits_105, dX8_fits_106, dX8_fits_107, dX8_fits_108, dX8_fits_109, dX8_fits_110, dX8_fits_112, dX8_fits_113, dX8_fits_115, dX8_fits_117, dX8_fits_118, dX8_fits_121, dX8_fits_122, dX8_fits_125, dX8_fits_126, dX8_fits_128, dX8_fits_130, dX8_fits_132, dX8_fits_135, dX8_fits_137, dX8_fits_140, dX8_fits_142, dX8_fits_143, dX8_fits_146, dX8_fits_147, dX8_fits_150, dX8_fits_152, dX8_fits_155, dX8_fits_157, dX8_fits_158, dX8_fits_159, dX8_fits_160, dX8_fits_162, dX8_fits_164, dX8_fits_167, dX8_fits_170, dX8_fits_171, dX8_fits_173, dX8_fits_174, dX8_fits_177, dX8_fits_178, dX8_fits_179, dX8_fits_181, dX8_fits_184, dX8_fits_187, dX8_fits_188, dX8_fits_190, dX8_fits_193, cpX8, mT_X8_fits, SHl_58, SHl_59, SHl_60, SHl_61, SHl_62, SHl_63, SHl_64, SHl_65, SHl_66, SHl_67, SHl_68, SHl_69, SHl_70, SHl_71, SHl_72, SHl_73, SHl_74, SHl_75, S_X8_found, S_X8_in, S_X8_isChord, S_X8_isMissing, S_X8_isPart, S_X8_isRead, S_X8_isRow, S_X8_well, Bool.or_true, Bool.or_false, Bool.true_or, Bool.false_or]
  by_cases hr : 0 ≤ r ∧ r < 8
  · obtain ⟨⟨g1, g2⟩, g3⟩ := hI r.toNat (by omega)
    by_cases hc : 0 ≤ c ∧ c < σ 64 1
    · by_cases h1 : w = 1
      · simp only [if_pos h1] at main
        (repeat' (first | apply And.intro | intro _)) <;> first | omega | (exact main (by omega) (by omega) (by omega) (by omega) (by omega) (by omega) _ (by omega) (by omega) (by omega)) | (repeat (first | rw [if_pos (by omega)] at hq | rw [if_neg (by omega)] at hq)) <;> exact hq
      · simp only [if_neg h1] at main
        (repeat' (first | apply And.intro | intro _)) <;> first | omega | (exact main (by omega) (by omega) (by omega) (by omega) (by omega) (by omega) _ (by omega) (by omega) (by omega)) | (repeat (first | rw [if_pos (by omega)] at hq | rw [if_neg (by omega)] at hq)) <;> exact hq
    · (repeat' (first | apply And.intro | intro _)) <;> first | omega | (rw [if_pos (by omega)] at hq; exact hq)
  · (repeat' (first | apply And.intro | intro _)) <;> first | omega | (rw [if_pos (by omega)] at hq; exact hq)
