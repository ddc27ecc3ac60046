/-! ===== the law's loop ===== -/
set_option maxRecDepth 100000 in
set_option maxHeartbeats 16000000 in
theorem law_loop {K : KT} {L : Nat} {f : Nat → Int} (hK : SND cL_law cpN mT_L_law (roL L f) 2 (fun r _ => r = some (.inl 1)) K) (hV : IVW cL_law mT_L_law K) (hE : IEQ cL_law K) (hf : ∀ j, R32 (f j)) (hL : L ≤ 3072) : ∀ (n i : Nat) (σ : HP), i ≤ L + 6 → L + 6 - i < n → INV σ → K 18 [some (.inr (.inl 79)), some (.inr (.inl 0)), some (.inr (.inl 58)), some (.inl (i : Int))] [] σ := by
  intro n
  induction n with
  | zero => intro i σ _ h; omega
  | succ n ih =>
    intro i σ hiL hn hI
    have fin : K 1054 [some (.inr (.inl 79)), some (.inr (.inl 0)), some (.inr (.inl 58)), some (.inl (i : Int))] [] σ := by
      refine hK (fun _ => false) 10 _ _ _ _ ?_
      simp only [↓wp, ↓stp, ilen, lnth, st1, st2, nolong, nohead, rnth, ↓gfX, ↓pfX, gfV, pfV, cpF, cpP, cndZ, ↓tgo, ↓tsw, ↓lsw, ↓ldI, ↓ldA, ↓ldL, ↓stI, ↓stA, ↓stL, ↓bin, ↓binD, ↓binL, ↓binDL, ↓una, ↓acV, ↓acK, ↓acpy, ↓inv, entL, nones, List.length_cons, List.length_nil, List.take, List.drop, List.reverse_cons, List.reverse_nil, List.nil_append, List.cons_append, Option.toList_some, Option.toList_none, Nat.reduceAdd, Nat.reduceSub, Nat.reduceLT, Nat.reduceEqDiff, Fin.isValue, aTL, aSZ, Int.toNat_natCast, hset_same, hset_o, hset_s, hset_row, ne_eq, Nat.reduceBEq, beq_self_eq_true, Fin.val_zero, Fin.val_one, fin0, fin1, fin2, fin3, Nat.le_refl, Nat.reduceLeDiff, Nat.zero_le, Int.reduceAdd, Int.reduceNeg, Int.reduceLE, Int.reduceLT, Int.reduceToNat, Int.reduceMul, Int.cast_ofNat_Int, Nat.reduceMod, ↓reduceIte, if_true, if_false, and_true, true_and, or_true, true_or, false_or, or_false, and_self, not_true_eq_false, not_false_eq_true, Bool.false_eq_true, reduceCtorEq, false_implies, true_implies, implies_true, and_false, false_and, dL_law_1054, dL_law_1055, cpN, mT_L_law, SHl_79, roL_79]
    by_cases hi6 : i + 6 ≤ L
    · have nx : ∀ τ, INV τ → K 1048 [some (.inr (.inl 79)), some (.inr (.inl 0)), some (.inr (.inl 58)), some (.inl (i : Int))] [] τ := by
        intro τ hτ
        have := ih (i + 6) τ (by omega) (by omega) hτ
        refine hK (fun q => q == 18) 10 _ _ _ _ ?_
        simp only [↓wp, ↓stp, ilen, lnth, st1, st2, nolong, nohead, rnth, ↓gfX, ↓pfX, gfV, pfV, cpF, cpP, cndZ, ↓tgo, ↓tsw, ↓lsw, ↓ldI, ↓ldA, ↓ldL, ↓stI, ↓stA, ↓stL, ↓bin, ↓binD, ↓binL, ↓binDL, ↓una, ↓acV, ↓acK, ↓acpy, ↓inv, entL, nones, List.length_cons, List.length_nil, List.take, List.drop, List.reverse_cons, List.reverse_nil, List.nil_append, List.cons_append, Option.toList_some, Option.toList_none, Nat.reduceAdd, Nat.reduceSub, Nat.reduceLT, Nat.reduceEqDiff, Fin.isValue, aTL, aSZ, Int.toNat_natCast, hset_same, hset_o, hset_s, hset_row, ne_eq, Nat.reduceBEq, beq_self_eq_true, Fin.val_zero, Fin.val_one, fin0, fin1, fin2, fin3, Nat.le_refl, Nat.reduceLeDiff, Nat.zero_le, Int.reduceAdd, Int.reduceNeg, Int.reduceLE, Int.reduceLT, Int.reduceToNat, Int.reduceMul, Int.cast_ofNat_Int, Nat.reduceMod, ↓reduceIte, if_true, if_false, and_true, true_and, or_true, true_or, false_or, or_false, and_self, not_true_eq_false, not_false_eq_true, Bool.false_eq_true, reduceCtorEq, false_implies, true_implies, implies_true, and_false, false_and, dL_law_1048, dL_law_1051, cpN, mT_L_law, SHl_79, roL_79]
        exact this
      have d0 := nx σ hI
      have c0 := cs_row hK hV hE hf hi6 hI nx
      have c1 := cs_set hK hV hE hf hi6 hI nx
      have c2 := cs_copy hK hV hE hf hi6 hI nx
      have c3 := cs_drop hK hV hE hf hi6 hI nx
      have c4 := cs_feed hK hV hE hf hi6 hI nx
      have c5 := cs_piece hK hV hE hf hi6 hI nx
      have c6 := cs_fault hK hV hE hf hi6 hI nx
      have c7 := cs_key hK hV hE hf hi6 hI nx
      have c8 := cs_become hK hV hE hf hi6 hI nx
      have c9 := cs_sign hK hV hE hf hi6 hI nx
      have c10 := cs_shift hK hV hE hf hi6 hI nx
      have c11 := cs_undo hK hV hE hf hi6 hI nx
      have c12 := cs_place hK hV hE hf hi6 hI nx
      have c13 := cs_inWindow hK hV hE hf hi6 hI nx
      have c14 := cs_head hK hV hE hf hi6 hI nx
      have c15 := cs_note hK hV hE hf hi6 hI nx
      have c16 := cs_chord hK hV hE hf hi6 hI nx
      have c17 := cs_whole hK hV hE hf hi6 hI nx
      have c18 := cs_price hK hV hE hf hi6 hI nx
      have c19 := cs_cost hK hV hE hf hi6 hI nx
      have c20 := cs_fits hK hV hE hf hi6 hI nx
      have c21 := cs_drawn hK hV hE hf hi6 hI nx
      have c22 := cs_image hK hV hE hf hi6 hI nx
      have c23 := cs_restore hK hV hE hf hi6 hI nx
      have c24 := cs_kind hK hV hE hf hi6 hI nx
      have c25 := cs_as hK hV hE hf hi6 hI nx
      have c26 := cs_ask hK hV hE hf hi6 hI nx
      have c27 := cs_trace hK hV hE hf hi6 hI nx
      have c28 := cs_count hK hV hE hf hi6 hI nx
      have c29 := cs_status hK hV hE hf hi6 hI nx
      refine hK (fun q => q == 18 || q == 1048 || q == 1054 || q == 168 || q == 211 || q == 254 || q == 317 || q == 340 || q == 363 || q == 376 || q == 389 || q == 422 || q == 455 || q == 478 || q == 501 || q == 514 || q == 547 || q == 580 || q == 603 || q == 636 || q == 669 || q == 692 || q == 725 || q == 758 || q == 811 || q == 854 || q == 877 || q == 900 || q == 923 || q == 956 || q == 989 || q == 1012 || q == 1035) 40 _ _ _ _ ?_
      simp only [↓wp, ↓stp, ilen, lnth, st1, st2, nolong, nohead, rnth, ↓gfX, ↓pfX, gfV, pfV, cpF, cpP, cndZ, ↓tgo, ↓tsw, ↓lsw, ↓ldI, ↓ldA, ↓ldL, ↓stI, ↓stA, ↓stL, ↓bin, ↓binD, ↓binL, ↓binDL, ↓una, ↓acV, ↓acK, ↓acpy, ↓inv, entL, nones, List.length_cons, List.length_nil, List.take, List.drop, List.reverse_cons, List.reverse_nil, List.nil_append, List.cons_append, Option.toList_some, Option.toList_none, Nat.reduceAdd, Nat.reduceSub, Nat.reduceLT, Nat.reduceEqDiff, Fin.isValue, aTL, aSZ, Int.toNat_natCast, hset_same, hset_o, hset_s, hset_row, ne_eq, Nat.reduceBEq, beq_self_eq_true, Fin.val_zero, Fin.val_one, fin0, fin1, fin2, fin3, Nat.le_refl, Nat.reduceLeDiff, Nat.zero_le, Int.reduceAdd, Int.reduceNeg, Int.reduceLE, Int.reduceLT, Int.reduceToNat, Int.reduceMul, Int.cast_ofNat_Int, Nat.reduceMod, ↓reduceIte, if_true, if_false, and_true, true_and, or_true, true_or, false_or, or_false, and_self, not_true_eq_false, not_false_eq_true, Bool.false_eq_true, reduceCtorEq, false_implies, true_implies, implies_true, and_false, false_and, dL_law_18, dL_law_19, dL_law_20, dL_law_21, dL_law_23, dL_law_24, dL_law_27, dL_law_28, dL_law_29, dL_law_30, dL_law_32, dL_law_33, dL_law_1048, dL_law_1051, dL_law_1054, dL_law_1055, cpN, mT_L_law, SHl_79, roL_79, Bool.or_true, Bool.or_false, Bool.true_or, Bool.false_or]
      have hz : R32 (zand (f i) 31) := R32_of _
      generalize zand (f i) 31 = z at *
      refine ⟨⟨by omega, by omega⟩, ⟨by omega, by omega⟩, fun q => by omega, fun _ => ?_⟩
      (repeat' (first | exact hz | exact d0 | exact fin | assumption | apply And.intro | intro _)) <;> omega
    · refine hK (fun q => q == 18 || q == 27 || q == 1054) 40 _ _ _ _ ?_
      simp only [↓wp, ↓stp, ilen, lnth, st1, st2, nolong, nohead, rnth, ↓gfX, ↓pfX, gfV, pfV, cpF, cpP, cndZ, ↓tgo, ↓tsw, ↓lsw, ↓ldI, ↓ldA, ↓ldL, ↓stI, ↓stA, ↓stL, ↓bin, ↓binD, ↓binL, ↓binDL, ↓una, ↓acV, ↓acK, ↓acpy, ↓inv, entL, nones, List.length_cons, List.length_nil, List.take, List.drop, List.reverse_cons, List.reverse_nil, List.nil_append, List.cons_append, Option.toList_some, Option.toList_none, Nat.reduceAdd, Nat.reduceSub, Nat.reduceLT, Nat.reduceEqDiff, Fin.isValue, aTL, aSZ, Int.toNat_natCast, hset_same, hset_o, hset_s, hset_row, ne_eq, Nat.reduceBEq, beq_self_eq_true, Fin.val_zero, Fin.val_one, fin0, fin1, fin2, fin3, Nat.le_refl, Nat.reduceLeDiff, Nat.zero_le, Int.reduceAdd, Int.reduceNeg, Int.reduceLE, Int.reduceLT, Int.reduceToNat, Int.reduceMul, Int.cast_ofNat_Int, Nat.reduceMod, ↓reduceIte, if_true, if_false, and_true, true_and, or_true, true_or, false_or, or_false, and_self, not_true_eq_false, not_false_eq_true, Bool.false_eq_true, reduceCtorEq, false_implies, true_implies, implies_true, and_false, false_and, dL_law_18, dL_law_19, dL_law_20, dL_law_21, dL_law_23, dL_law_24, cpN, mT_L_law, SHl_79, roL_79, Bool.or_true, Bool.or_false, Bool.true_or, Bool.false_or]
      exact ⟨⟨by omega, by omega⟩, ⟨by omega, by omega⟩, fun _ => fin, fun q => by omega⟩
