/-! ===== goOn, pick, solve ===== -/
theorem lstN_cong {f g : Nat → Int} : ∀ n, (∀ b, b < n → f b = g b) → lstN f n = lstN g n
  | 0, _ => rfl
  | n + 1, h => by rw [lstN_s, lstN_s, lstN_cong n (fun b hb => h b (by omega)), h n (by omega)]
theorem fstN_cong {f g : Nat → Int} : ∀ n, (∀ b, b < n → f b = g b) → fstN f n = fstN g n
  | 0, _ => rfl
  | n + 1, h => by rw [fstN_s, fstN_s, lstN_cong n (fun b hb => h b (by omega)), fstN_cong n (fun b hb => h b (by omega)), h n (by omega)]
theorem cntN_cong {f g u v : Nat → Int} : ∀ n, (∀ b, b < n → f b = g b ∧ u b = v b) → cntN f u n = cntN g v n
  | 0, _ => rfl
  | n + 1, h => by rw [cntN_s, cntN_s, lstN_cong n (fun b hb => (h b (by omega)).1), cntN_cong n (fun b hb => h b (by omega)), (h n (by omega)).1, (h n (by omega)).2]
/-- a Best and a Piece that have no cell in common -/
def sepBP (b p : Nat) : Prop := b + 7 < p ∨ p + 6 < b
/-- the tables from chord c on -/
def tabV (σ : HP) (b : Nat) (V : HP) (c : Nat) : Prop := ∀ t : Nat, t < 24 → σ (b + 4) (24 * c + t) = ddV V c t ∧ σ (b + 5) (24 * c + t) = wwV V c t ∧ σ (b + 6) (24 * c + t) = nnV V c t
def S_X2_goOn : MSpec := fun a σ Q => match a with
  | [.inr (.inl b), .inr (.inl p), .inl c, .inl w] => isBs b ∧ isPc p ∧ okV (vC σ p) ∧ (0 ≤ c ∧ c < σ p 1) ∧ (0 ≤ w ∧ w < 24) ∧ (c + 1 < σ p 1 → tabV σ b (vC σ p) (c.toNat + 1)) ∧
      Q none (hset (hset (hset σ (b + 4) (c * 24 + w).toNat (gcV (vC σ p) c.toNat w.toNat)) (b + 5) (c * 24 + w).toNat (wwV (vC σ p) c.toNat w.toNat)) (b + 6) (c * 24 + w).toNat (nnV (vC σ p) c.toNat w.toNat))
  | _ => False
theorem rc_X2_goOn : ∀ a σ Q, S_X2_goOn a σ Q → ∃ (p : Nat) (r : List AV), a = .inr (.inl p) :: r ∧ p < 76 ∧ (SH p).1 = 4 ∧ (SH p).2.1 = 2 := by
  intro a σ Q h
  unfold S_X2_goOn at h
  split at h
  · exact ⟨_, _, rfl, h.1.lt, by rw [h.1.1], by rw [h.1.1]⟩
  · exact h.elim
def mT_X2_goOn (i : Nat) : Option (Nat × Bool × MSpec) := match i with
  | 61 => some (2, true, S_X4_staysWithin)
  | 68 => some (4, true, S_X2_choose)
  | _ => none
theorem mT_X2_goOn_ok {l : Launch} {n : Nat} (hn : 1 ≤ n) : ∀ i e, mT_X2_goOn i = some e → mV l (rmOf n) RX2 i e := by
  intro i e h
  unfold mT_X2_goOn at h
  split at h
  · cases h; exact mvI (lv := 0) (ci := 3) (T := TX4) (N := 9) mw_X4_staysWithin rfl (by omega) (by decide) (by decide +kernel) (gtm 540 (by decide +kernel) (by decide +kernel)) rc_X4_staysWithin ok_X4_staysWithin
  · cases h; exact mvI (lv := 0) (ci := 2) (T := TX2) (N := 10) mw_X2_choose rfl (by omega) (by decide) (by decide +kernel) (gtm 544 (by decide +kernel) (by decide +kernel)) rc_X2_choose ok_X2_choose
  · cases h
set_option maxRecDepth 100000 in
set_option maxHeartbeats 16000000 in
theorem ok_X2_goOn : ∀ l n, 1 ≤ n → ∀ a σ Q, S_X2_goOn a σ Q → AM l n yX2_goOn cX2_goOn 5 none a σ Q := by
  intro l n hn a σ Q hS
  unfold S_X2_goOn at hS
  split at hS
  rotate_left
  · exact hS.elim
  rename_i b p c' w'
  obtain ⟨hB, hPc, hV, c1, w1, hT, hq⟩ := hS
  obtain ⟨b0, b1, b2, b3, b4, b5, b6, b7, b8⟩ := id hB
  obtain ⟨k0, k1, k2, k3, k4, k5, k6, k7⟩ := id hPc
  obtain ⟨c, rfl⟩ : ∃ c : Nat, c' = (c : Int) := ⟨c'.toNat, by omega⟩
  obtain ⟨w, rfl⟩ : ∃ w : Nat, w' = (w : Int) := ⟨w'.toNat, by omega⟩
  rw [Int.toNat_natCast, Int.toNat_natCast] at hq
  rw [Int.toNat_natCast] at hT
  obtain ⟨v0, v1, v2⟩ := vC_0 σ p
  obtain ⟨o1, o2, o3, -, oc, on⟩ := id hV
  rw [v1] at o2
  have hnc : (ncV (vC σ p) : Int) = σ p 1 := by unfold ncV; rw [v1]; omega
  have hcc : c < ncV (vC σ p) := by omega
  rw [wwV_eq hcc, nnV_eq hcc] at hq
  unfold gcV at hq
  refine am_ofF 0 cpX2 mT_X2_goOn (plainFor_of_name (by decide +kernel)) (rfl) (Nat.le_of_ble_eq_true rfl) (cpX2_ok) (mT_X2_goOn_ok hn) (fun K hK => ?_)
  refine hK (fun _ => false) 100 _ _ _ _ ?_
  simp only [↓wp, ↓stp, ilen, lnth, st1, st2, nolong, nohead, rnth, ↓gfX, ↓pfX, gfV, pfV, cpF, cpP, cndZ, ↓tgo, ↓tsw, ↓lsw, ↓ldI, ↓ldA, ↓ldL, ↓stI, ↓stA, ↓stL, ↓bin, ↓binD, ↓binL, ↓binDL, ↓una, ↓acV, ↓acK, ↓acpy, ↓inv, entL, nones, List.length_cons, List.length_nil, List.take, List.drop, List.reverse_cons, List.reverse_nil, List.nil_append, List.cons_append, Option.toList_some, Option.toList_none, Nat.reduceAdd, Nat.reduceSub, Nat.reduceLT, Nat.reduceEqDiff, Fin.isValue, aTL, aSZ, Int.toNat_natCast, hset_same, hset_o, hset_s, hset_row, ne_eq, Nat.reduceBEq, beq_self_eq_true, Fin.val_zero, Fin.val_one, fin0, fin1, fin2, fin3, Nat.le_refl, Nat.reduceLeDiff, Nat.zero_le, Int.reduceAdd, Int.reduceNeg, Int.reduceLE, Int.reduceLT, Int.reduceToNat, Int.reduceMul, Int.cast_ofNat_Int, Nat.reduceMod, ↓reduceIte, if_true, if_false, and_true, true_and, or_true, true_or, false_or, or_false, and_self, not_true_eq_false, not_false_eq_true, Bool.false_eq_true, reduceCtorEq, false_implies, true_implies, implies_true, and_false, false_and, dX2_goOn_0, dX2_goOn_1, dX2_goOn_3, dX2_goOn_4, dX2_goOn_5, dX2_goOn_6, dX2_goOn_8, dX2_goOn_9, dX2_goOn_10, dX2_goOn_11, dX2_goOn_12, dX2_goOn_15, dX2_goOn_18, dX2_goOn_19, dX2_goOn_22, dX2_goOn_24, dX2_goOn_25, dX2_goOn_26, dX2_goOn_27, dX2_goOn_30, dX2_goOn_32, dX2_goOn_33, dX2_goOn_34, dX2_goOn_35, dX2_goOn_38, dX2_goOn_40, dX2_goOn_41, dX2_goOn_42, dX2_goOn_45, dX2_goOn_46, dX2_goOn_47, dX2_goOn_48, dX2_goOn_49, dX2_goOn_52, dX2_goOn_55, dX2_goOn_56, dX2_goOn_59, dX2_goOn_61, dX2_goOn_62, dX2_goOn_65, dX2_goOn_67, dX2_goOn_69, dX2_goOn_70, dX2_goOn_71, dX2_goOn_72, dX2_goOn_73, dX2_goOn_76, dX2_goOn_78, dX2_goOn_79, dX2_goOn_82, dX2_goOn_84, dX2_goOn_86, dX2_goOn_87, dX2_goOn_88, dX2_goOn_89, dX2_goOn_90, dX2_goOn_93, dX2_goOn_95, dX2_goOn_96, dX2_goOn_97, dX2_goOn_100, dX2_goOn_101, dX2_goOn_103, dX2_goOn_104, dX2_goOn_105, dX2_goOn_108, dX2_goOn_109, dX2_goOn_110, dX2_goOn_111, dX2_goOn_112, dX2_goOn_113, dX2_goOn_116, dX2_goOn_117, dX2_goOn_120, dX2_goOn_121, dX2_goOn_124, cpX2, mT_X2_goOn, SHl_0, SHl_1, SHl_2, SHl_3, SHl_4, SHl_5, SHl_6, SHl_7, SHl_8, SHl_9, SHl_10, SHl_11, SHl_12, SHl_13, SHl_14, SHl_15, SHl_16, SHl_17, SHl_18, SHl_19, SHl_20, SHl_21, SHl_22, SHl_23, SHl_24, SHl_25, SHl_26, SHl_27, SHl_28, SHl_29, SHl_30, SHl_31, SHl_32, SHl_33, SHl_34, SHl_35, SHl_36, SHl_37, SHl_38, SHl_39, SHl_40, SHl_41, SHl_42, SHl_43, SHl_44, SHl_45, SHl_46, SHl_47, SHl_48, SHl_49, SHl_50, SHl_51, SHl_52, SHl_53, SHl_54, SHl_55, SHl_56, SHl_57, S_X2_choose, S_X4_staysWithin, k0, k1, k2, k3, k4, k5, k6, b0, b1, b2, b3, b4, b5, b6, b7, Nat.add_left_cancel_iff]
  have ic : ((c : Int) + 1).toNat = c + 1 := by omega
  rw [ic]
  by_cases hlast : (c : Int) + 1 < σ p 1
  · have hT1 := hT hlast
    obtain ⟨e1, e2, e3, e4, e5⟩ := vC_c (σ := σ) (p := p) (c := c + 1) (by omega)
    obtain ⟨a1, a2, a3, -⟩ := oc (c + 1) (by rw [v1]; omega)
    rw [e1] at a1; rw [e3] at a3
    have hn1 : ¬ ncV (vC σ p) ≤ c + 1 := by omega
    rw [if_neg hn1, if_neg hn1, if_neg hn1, e1] at hq
    have i24 : ((c : Int) * 24 + w + 24).toNat = 24 * (c + 1) + w := by omega
    have t1 := hT1 w (by omega)
    have db := fun t (ht : t < 24) => ddV_b hV (c := c + 1) (a := t) (by omega) ht
    refine ⟨by omega, ⟨by omega, by omega⟩, ⟨by omega, by omega⟩, fun _ => ⟨hPc, by omega, by omega, ?_, fun q => ⟨by omega, by omega, by omega, ⟨by omega, by omega⟩, ⟨by omega, by omega⟩, ?_, ?_⟩, fun q => ?_⟩, fun q => absurd hlast q⟩
    · split <;> exact ⟨by decide, by decide⟩
    · intro z
      have h4 : ¬ 4 ≤ σ (p + 1) (c + 1) := by omega
      rw [if_neg h4, if_neg h4, if_neg h4] at hq
      have i0 : ((c : Int) * 24 + w - w + 24).toNat = 24 * (c + 1) := by omega
      rw [i0]
      have hf : ∀ t, t < 24 → chF σ b (24 * (c + 1)) 0 w t = ddV (vC σ p) (c + 1) t + stpV (vC σ p) (c + 1) w t := by
        intro t ht
        unfold chF stpV
        rw [(hT1 t ht).1, e3, show σ (p + 3) (c + 1) = 0 by omega]
      refine ⟨hB, by omega, by omega, fun t ht => ⟨?_, ?_⟩, ?_⟩
      · rw [(hT1 t ht).1]; have := db t ht; omega
      · rw [(hT1 t ht).2.1]; exact wwV_b hV
      · rw [lstN_cong 24 hf, fstN_cong 24 hf, cntN_cong 24 (fun t ht => ⟨hf t ht, (hT1 t ht).2.1⟩)]
        exact hq
    · intro z
      have h4 : ¬ 4 ≤ σ (p + 1) (c + 1) := by omega
      rw [if_neg h4, if_neg h4, if_neg h4] at hq
      have i0 : ((c : Int) * 24 + w - w + 24).toNat = 24 * (c + 1) := by omega
      rw [i0]
      have hf : ∀ t, t < 24 → chF σ b (24 * (c + 1)) 1 w t = ddV (vC σ p) (c + 1) t + stpV (vC σ p) (c + 1) w t := by
        intro t ht
        unfold chF stpV
        rw [(hT1 t ht).1, e3, show σ (p + 3) (c + 1) = 1 by omega]
      refine ⟨hB, by omega, by omega, fun t ht => ⟨?_, ?_⟩, ?_⟩
      · rw [(hT1 t ht).1]; have := db t ht; omega
      · rw [(hT1 t ht).2.1]; exact wwV_b hV
      · rw [lstN_cong 24 hf, fstN_cong 24 hf, cntN_cong 24 (fun t ht => ⟨hf t ht, (hT1 t ht).2.1⟩)]
        exact hq
    · have h4 : 4 ≤ σ (p + 1) (c + 1) := by omega
      rw [if_pos h4, if_pos h4, if_pos h4] at hq
      rw [i24, t1.1, t1.2.1]
      exact ⟨by omega, by omega, by omega, by omega, by omega, by omega, by omega, by omega, by omega, by omega, by omega, by omega, by omega, by omega, by omega, by omega, by omega, by omega, by omega, hq⟩
  · have hn1 : ncV (vC σ p) ≤ c + 1 := by omega
    rw [if_pos hn1, if_pos hn1, if_pos hn1] at hq
    exact ⟨by omega, ⟨by omega, by omega⟩, ⟨by omega, by omega⟩, fun q => absurd q hlast, fun _ => ⟨by omega, by omega, by omega, by omega, by omega, by omega, by omega, by omega, by omega, by omega, by omega, by omega, hq⟩⟩
theorem vC_hset {σ : HP} {p q k : Nat} {v : Int} (h : q < p ∨ p + 6 < q) : vC (hset σ q k v) p = vC σ p := by
  funext a c
  have e0 : hset σ q k v p = σ p := hset_ne (by omega)
  have e1 : hset σ q k v (p + 1) = σ (p + 1) := hset_ne (by omega)
  have e2 : hset σ q k v (p + 2) = σ (p + 2) := hset_ne (by omega)
  have e3 : hset σ q k v (p + 3) = σ (p + 3) := hset_ne (by omega)
  have e4 : hset σ q k v (p + 4) = σ (p + 4) := hset_ne (by omega)
  have e5 : hset σ q k v (p + 5) = σ (p + 5) := hset_ne (by omega)
  unfold vC
  rw [e0, e1, e2, e3, e4, e5]
/-- places q to q + n alone have changed -/
def only (σ τ : HP) (P : Nat → Prop) : Prop := ∀ q, ¬ P q → τ q = σ q
theorem vC_only {σ τ : HP} {p : Nat} {P : Nat → Prop} (h : only σ τ P) (hp : ∀ i, i ≤ 6 → ¬ P (p + i)) : vC τ p = vC σ p := by
  funext a c
  have e0 : τ p = σ p := h p (hp 0 (by omega))
  have e1 : τ (p + 1) = σ (p + 1) := h _ (hp 1 (by omega))
  have e2 : τ (p + 2) = σ (p + 2) := h _ (hp 2 (by omega))
  have e3 : τ (p + 3) = σ (p + 3) := h _ (hp 3 (by omega))
  have e4 : τ (p + 4) = σ (p + 4) := h _ (hp 4 (by omega))
  have e5 : τ (p + 5) = σ (p + 5) := h _ (hp 5 (by omega))
  unfold vC
  rw [e0, e1, e2, e3, e4, e5]
theorem only_set {σ τ : HP} {P : Nat → Prop} {q k : Nat} {v : Int} (h : only σ τ P) (hq : P q) : only σ (hset τ q k v) P := by
  intro x hx
  rw [hset_ne (fun e => hx (by rw [e]; exact hq))]
  exact h x hx
def pkP (b : Nat) : Nat → Prop := fun q => q = b ∨ q = b + 1
/-- pick: cost, ways, the windows, out of the tables -/
def S_X2_pick : MSpec := fun a σ Q => match a with
  | [.inr (.inl b), .inl n] => isBs b ∧ ∃ V : HP, okV V ∧ n = V 0 1 ∧ 1 ≤ n ∧ (∀ c, c < ncV V → tabV σ b V c) ∧ ∀ τ, only σ τ (pkP b) → τ b 0 = bestV V → τ b 1 = min (waysV V) 99999999 → τ b 2 = σ b 2 → (∀ c, c < ncV V → τ (b + 1) c = (winV V c : Int) - 15) → Q none τ
  | _ => False
theorem rc_X2_pick : ∀ a σ Q, S_X2_pick a σ Q → ∃ (p : Nat) (r : List AV), a = .inr (.inl p) :: r ∧ p < 76 ∧ (SH p).1 = 4 ∧ (SH p).2.1 = 2 := by
  intro a σ Q h
  unfold S_X2_pick at h
  split at h
  · exact ⟨_, _, rfl, h.1.lt, by rw [h.1.1], by rw [h.1.1]⟩
  · exact h.elim
def mT_X2_pick (i : Nat) : Option (Nat × Bool × MSpec) := match i with
  | 75 => some (2, false, S_J9_min_f86c9)
  | _ => none
theorem mT_X2_pick_ok {l : Launch} {n : Nat} (hn : 1 ≤ n) : ∀ i e, mT_X2_pick i = some e → mV l (rmOf n) RX2 i e := by
  intro i e h
  unfold mT_X2_pick at h
  split at h
  · cases h; exact mvS (lv := 0) mw_J9_min_f86c9 (by omega) (by decide) (by decide +kernel) (Or.inl (gtm 568 (by decide +kernel) (by decide +kernel))) ok_J9_min_f86c9
  · cases h
theorem nnV_lt {V : HP} (hV : okV V) {c a : Nat} (hc : c < ncV V) (ha : a < 24) : nnV V c a < 24 := by
  rw [nnV_eq hc]
  split
  · exact ha
  · split
    · exact ha
    · refine fstN_lt _ (fun b hb => ?_) (by decide)
      have := ddV_b hV (c := c + 1) (a := b) (by omega) hb
      have := stpV_b (V := V) (c := c + 1) ha hb
      omega
theorem winV_lt {V : HP} (hV : okV V) (h1 : 1 ≤ ncV V) : ∀ c, c < ncV V → winV V c < 24
  | 0, _ => by
    unfold winV fstV
    refine fstN_lt _ (fun b hb => ?_) (by decide)
    have := ddV_b hV (c := 0) (a := b) (by omega) hb
    omega
  | c + 1, h => by
    unfold winV
    exact nnV_lt hV (by omega) (winV_lt hV h1 c (by omega))
set_option maxRecDepth 100000 in
set_option maxHeartbeats 16000000 in
theorem ok_X2_pick : ∀ l n, 1 ≤ n → ∀ a σ Q, S_X2_pick a σ Q → AM l n yX2_pick cX2_pick 7 none a σ Q := by
  intro l n hn a σ Q hS
  unfold S_X2_pick at hS
  split at hS
  rotate_left
  · exact hS.elim
  rename_i b n'
  obtain ⟨hB, V, hV, rfl, n1, hT, hq⟩ := hS
  obtain ⟨b0, b1, b2, b3, b4, b5, b6, b7, b8⟩ := id hB
  obtain ⟨o1, o2, o3, -, oc, on⟩ := id hV
  have hnc : (ncV V : Int) = V 0 1 := by unfold ncV; omega
  have T0 := hT 0 (by omega)
  obtain ⟨f, hf⟩ : ∃ f : Nat → Int, f = fun a => ddV V 0 a := ⟨_, rfl⟩
  obtain ⟨g, hg⟩ : ∃ g : Nat → Int, g = fun a => wwV V 0 a := ⟨_, rfl⟩
  have ft : ∀ t, t < 24 → σ (b + 4) t = f t ∧ σ (b + 5) t = g t := fun t ht => by
    have := T0 t ht
    rw [show 24 * 0 + t = t by omega] at this
    rw [hf, hg]
    exact ⟨this.1, this.2.1⟩
  have fb : ∀ t, t < 24 → 0 ≤ f t ∧ f t ≤ 840 := fun t ht => by rw [hf]; exact ddV_b hV (by omega) ht
  have gb : ∀ t, 0 ≤ g t ∧ g t ≤ 2641807540224 := fun t => by rw [hg]; exact wwV_b hV
  have cb := cntN_b f g 2641807540224 gb
  have fk : ∀ t, 0 < t → t ≤ 24 → fstN f t < t ∧ f (fstN f t) = lstN f t := fun t h0 h1 => by
    have := fstN_ok f t (fun x hx => by have := fb x (by omega); omega) h0
    exact ⟨this.1, this.2.1⟩
  refine am_ofF 0 cpX2 mT_X2_pick (plainFor_of_name (by decide +kernel)) (rfl) (Nat.le_of_ble_eq_true rfl) (cpX2_ok) (mT_X2_pick_ok hn) (fun K hK => ?_)
  have loop2 : ∀ (d c : Nat), c + d = ncV V → ∀ (τ : HP) (w : Nat) (u2 : Option AV) (u3 : Option AV), only σ τ (pkP b) → τ b 0 = bestV V → τ b 1 = min (waysV V) 99999999 → τ b 2 = σ b 2 → (∀ x, x < c → τ (b + 1) x = (winV V x : Int) - 15) → (c < ncV V → w = winV V c) → K 95 [some (.inr (.inl b)), some (.inl (V 0 1)), u2, u3, none, some (.inl (w : Int)), some (.inl (c : Int))] [] τ := by
    intro d
    induction d with
    | zero =>
      intro c hc τ w u2 u3 ho h0 h1 h2 hw _
      refine hK (fun q => q == 95) 100 _ _ _ _ ?_
      simp only [↓wp, ↓stp, ilen, lnth, st1, st2, nolong, nohead, rnth, ↓gfX, ↓pfX, gfV, pfV, cpF, cpP, cndZ, ↓tgo, ↓tsw, ↓lsw, ↓ldI, ↓ldA, ↓ldL, ↓stI, ↓stA, ↓stL, ↓bin, ↓binD, ↓binL, ↓binDL, ↓una, ↓acV, ↓acK, ↓acpy, ↓inv, entL, nones, List.length_cons, List.length_nil, List.take, List.drop, List.reverse_cons, List.reverse_nil, List.nil_append, List.cons_append, Option.toList_some, Option.toList_none, Nat.reduceAdd, Nat.reduceSub, Nat.reduceLT, Nat.reduceEqDiff, Fin.isValue, aTL, aSZ, Int.toNat_natCast, hset_same, hset_o, hset_s, hset_row, ne_eq, Nat.reduceBEq, beq_self_eq_true, Fin.val_zero, Fin.val_one, fin0, fin1, fin2, fin3, Nat.le_refl, Nat.reduceLeDiff, Nat.zero_le, Int.reduceAdd, Int.reduceNeg, Int.reduceLE, Int.reduceLT, Int.reduceToNat, Int.reduceMul, Int.cast_ofNat_Int, Nat.reduceMod, ↓reduceIte, if_true, if_false, and_true, true_and, or_true, true_or, false_or, or_false, and_self, not_true_eq_false, not_false_eq_true, Bool.false_eq_true, reduceCtorEq, false_implies, true_implies, implies_true, and_false, false_and, dX2_pick_0, dX2_pick_1, dX2_pick_2, dX2_pick_3, dX2_pick_4, dX2_pick_5, dX2_pick_7, dX2_pick_9, dX2_pick_11, dX2_pick_14, dX2_pick_15, dX2_pick_18, dX2_pick_20, dX2_pick_21, dX2_pick_22, dX2_pick_25, dX2_pick_26, dX2_pick_27, dX2_pick_30, dX2_pick_32, dX2_pick_33, dX2_pick_34, dX2_pick_35, dX2_pick_36, dX2_pick_39, dX2_pick_41, dX2_pick_42, dX2_pick_43, dX2_pick_46, dX2_pick_47, dX2_pick_48, dX2_pick_51, dX2_pick_52, dX2_pick_53, dX2_pick_56, dX2_pick_58, dX2_pick_59, dX2_pick_60, dX2_pick_61, dX2_pick_64, dX2_pick_67, dX2_pick_68, dX2_pick_69, dX2_pick_72, dX2_pick_73, dX2_pick_74, dX2_pick_77, dX2_pick_78, dX2_pick_79, dX2_pick_82, dX2_pick_85, dX2_pick_86, dX2_pick_89, dX2_pick_90, dX2_pick_92, dX2_pick_93, dX2_pick_95, dX2_pick_97, dX2_pick_98, dX2_pick_101, dX2_pick_102, dX2_pick_105, dX2_pick_107, dX2_pick_109, dX2_pick_111, dX2_pick_112, dX2_pick_113, dX2_pick_114, dX2_pick_117, dX2_pick_119, dX2_pick_121, dX2_pick_122, dX2_pick_124, dX2_pick_125, dX2_pick_126, dX2_pick_128, dX2_pick_131, dX2_pick_134, cpX2, mT_X2_pick, SHl_0, SHl_1, SHl_2, SHl_3, SHl_4, SHl_5, SHl_6, SHl_7, SHl_8, SHl_9, SHl_10, SHl_11, SHl_12, SHl_13, SHl_14, SHl_15, SHl_16, SHl_17, SHl_18, SHl_19, SHl_20, SHl_21, SHl_22, SHl_23, SHl_24, SHl_25, SHl_26, SHl_27, SHl_28, SHl_29, SHl_30, SHl_31, SHl_32, SHl_33, SHl_34, SHl_35, SHl_36, SHl_37, SHl_38, SHl_39, SHl_40, SHl_41, SHl_42, SHl_43, SHl_44, SHl_45, SHl_46, SHl_47, SHl_48, SHl_49, SHl_50, SHl_51, SHl_52, SHl_53, SHl_54, SHl_55, SHl_56, SHl_57, S_J9_min_f86c9, b0, b1, b2, b3, b4, b5, b6, b7, Nat.add_left_cancel_iff]
      exact ⟨⟨by omega, by omega⟩, ⟨by omega, by omega⟩, fun _ => hq τ ho h0 h1 h2 (fun x hx => hw x (by omega)), fun q => by omega⟩
    | succ d ih =>
      intro c hc τ w u2 u3 ho h0 h1 h2 hw hwc
      have hw1 := hwc (by omega)
      have wl := winV_lt hV (by omega) c (by omega)
      have e6 : τ (b + 6) = σ (b + 6) := ho _ (by unfold pkP; omega)
      have tb := hT c (by omega) w (by omega)
      refine hK (fun q => q == 95) 100 _ _ _ _ ?_
      simp only [↓wp, ↓stp, ilen, lnth, st1, st2, nolong, nohead, rnth, ↓gfX, ↓pfX, gfV, pfV, cpF, cpP, cndZ, ↓tgo, ↓tsw, ↓lsw, ↓ldI, ↓ldA, ↓ldL, ↓stI, ↓stA, ↓stL, ↓bin, ↓binD, ↓binL, ↓binDL, ↓una, ↓acV, ↓acK, ↓acpy, ↓inv, entL, nones, List.length_cons, List.length_nil, List.take, List.drop, List.reverse_cons, List.reverse_nil, List.nil_append, List.cons_append, Option.toList_some, Option.toList_none, Nat.reduceAdd, Nat.reduceSub, Nat.reduceLT, Nat.reduceEqDiff, Fin.isValue, aTL, aSZ, Int.toNat_natCast, hset_same, hset_o, hset_s, hset_row, ne_eq, Nat.reduceBEq, beq_self_eq_true, Fin.val_zero, Fin.val_one, fin0, fin1, fin2, fin3, Nat.le_refl, Nat.reduceLeDiff, Nat.zero_le, Int.reduceAdd, Int.reduceNeg, Int.reduceLE, Int.reduceLT, Int.reduceToNat, Int.reduceMul, Int.cast_ofNat_Int, Nat.reduceMod, ↓reduceIte, if_true, if_false, and_true, true_and, or_true, true_or, false_or, or_false, and_self, not_true_eq_false, not_false_eq_true, Bool.false_eq_true, reduceCtorEq, false_implies, true_implies, implies_true, and_false, false_and, dX2_pick_0, dX2_pick_1, dX2_pick_2, dX2_pick_3, dX2_pick_4, dX2_pick_5, dX2_pick_7, dX2_pick_9, dX2_pick_11, dX2_pick_14, dX2_pick_15, dX2_pick_18, dX2_pick_20, dX2_pick_21, dX2_pick_22, dX2_pick_25, dX2_pick_26, dX2_pick_27, dX2_pick_30, dX2_pick_32, dX2_pick_33, dX2_pick_34, dX2_pick_35, dX2_pick_36, dX2_pick_39, dX2_pick_41, dX2_pick_42, dX2_pick_43, dX2_pick_46, dX2_pick_47, dX2_pick_48, dX2_pick_51, dX2_pick_52, dX2_pick_53, dX2_pick_56, dX2_pick_58, dX2_pick_59, dX2_pick_60, dX2_pick_61, dX2_pick_64, dX2_pick_67, dX2_pick_68, dX2_pick_69, dX2_pick_72, dX2_pick_73, dX2_pick_74, dX2_pick_77, dX2_pick_78, dX2_pick_79, dX2_pick_82, dX2_pick_85, dX2_pick_86, dX2_pick_89, dX2_pick_90, dX2_pick_92, dX2_pick_93, dX2_pick_95, dX2_pick_97, dX2_pick_98, dX2_pick_101, dX2_pick_102, dX2_pick_105, dX2_pick_107, dX2_pick_109, dX2_pick_111, dX2_pick_112, dX2_pick_113, dX2_pick_114, dX2_pick_117, dX2_pick_119, dX2_pick_121, dX2_pick_122, dX2_pick_124, dX2_pick_125, dX2_pick_126, dX2_pick_128, dX2_pick_131, dX2_pick_134, cpX2, mT_X2_pick, SHl_0, SHl_1, SHl_2, SHl_3, SHl_4, SHl_5, SHl_6, SHl_7, SHl_8, SHl_9, SHl_10, SHl_11, SHl_12, SHl_13, SHl_14, SHl_15, SHl_16, SHl_17, SHl_18, SHl_19, SHl_20, SHl_21, SHl_22, SHl_23, SHl_24, SHl_25, SHl_26, SHl_27, SHl_28, SHl_29, SHl_30, SHl_31, SHl_32, SHl_33, SHl_34, SHl_35, SHl_36, SHl_37, SHl_38, SHl_39, SHl_40, SHl_41, SHl_42, SHl_43, SHl_44, SHl_45, SHl_46, SHl_47, SHl_48, SHl_49, SHl_50, SHl_51, SHl_52, SHl_53, SHl_54, SHl_55, SHl_56, SHl_57, S_J9_min_f86c9, b0, b1, b2, b3, b4, b5, b6, b7, Nat.add_left_cancel_iff]
      have i1 : ((c : Int) * 24 + w).toNat = 24 * c + w := by omega
      refine ⟨⟨by omega, by omega⟩, ⟨by omega, by omega⟩, fun q => by omega, fun _ => ⟨by omega, by omega, by omega, by omega, by omega, by omega, by omega, ?_⟩⟩
      rw [i1, e6, tb.2.2]
      refine ih (c + 1) (by omega) _ (nnV V c w) u2 u3 (only_set ho (Or.inr rfl)) ?_ ?_ ?_ ?_ ?_
      · rw [hset_o (by omega)]; exact h0
      · rw [hset_o (by omega)]; exact h1
      · rw [hset_o (by omega)]; exact h2
      · intro x hx
        by_cases e : x = c
        · subst e
          rw [hset_same, hw1]
          omega
        · rw [hset_s e]
          exact hw x (by omega)
      · intro _
        rw [hw1]
        rfl
  have loop1 : ∀ (d t : Nat), t + d = 24 → K 7 [some (.inr (.inl b)), some (.inl (V 0 1)), some (.inl (fstN f t : Int)), some (.inr (.inr (cntN f g t))), none, some (.inl (t : Int)), none] [] σ := by
    intro d
    induction d with
    | zero =>
      intro t ht
      have c1 := cb t
      have f1 := fk t (by omega) (by omega)
      have ht : t = 24 := by omega
      have hbest : σ (b + 4) (fstN f t) = bestV V := by
        rw [(ft _ (by omega)).1, f1.2, hf, ht]
        rfl
      have hways : cntN f g t = waysV V := by rw [hf, hg, ht]; rfl
      refine hK (fun q => q == 7 || q == 95) 100 _ _ _ _ ?_
      simp only [↓wp, ↓stp, ilen, lnth, st1, st2, nolong, nohead, rnth, ↓gfX, ↓pfX, gfV, pfV, cpF, cpP, cndZ, ↓tgo, ↓tsw, ↓lsw, ↓ldI, ↓ldA, ↓ldL, ↓stI, ↓stA, ↓stL, ↓bin, ↓binD, ↓binL, ↓binDL, ↓una, ↓acV, ↓acK, ↓acpy, ↓inv, entL, nones, List.length_cons, List.length_nil, List.take, List.drop, List.reverse_cons, List.reverse_nil, List.nil_append, List.cons_append, Option.toList_some, Option.toList_none, Nat.reduceAdd, Nat.reduceSub, Nat.reduceLT, Nat.reduceEqDiff, Fin.isValue, aTL, aSZ, Int.toNat_natCast, hset_same, hset_o, hset_s, hset_row, ne_eq, Nat.reduceBEq, beq_self_eq_true, Fin.val_zero, Fin.val_one, fin0, fin1, fin2, fin3, Nat.le_refl, Nat.reduceLeDiff, Nat.zero_le, Int.reduceAdd, Int.reduceNeg, Int.reduceLE, Int.reduceLT, Int.reduceToNat, Int.reduceMul, Int.cast_ofNat_Int, Nat.reduceMod, ↓reduceIte, if_true, if_false, and_true, true_and, or_true, true_or, false_or, or_false, and_self, not_true_eq_false, not_false_eq_true, Bool.false_eq_true, reduceCtorEq, false_implies, true_implies, implies_true, and_false, false_and, dX2_pick_0, dX2_pick_1, dX2_pick_2, dX2_pick_3, dX2_pick_4, dX2_pick_5, dX2_pick_7, dX2_pick_9, dX2_pick_11, dX2_pick_14, dX2_pick_15, dX2_pick_18, dX2_pick_20, dX2_pick_21, dX2_pick_22, dX2_pick_25, dX2_pick_26, dX2_pick_27, dX2_pick_30, dX2_pick_32, dX2_pick_33, dX2_pick_34, dX2_pick_35, dX2_pick_36, dX2_pick_39, dX2_pick_41, dX2_pick_42, dX2_pick_43, dX2_pick_46, dX2_pick_47, dX2_pick_48, dX2_pick_51, dX2_pick_52, dX2_pick_53, dX2_pick_56, dX2_pick_58, dX2_pick_59, dX2_pick_60, dX2_pick_61, dX2_pick_64, dX2_pick_67, dX2_pick_68, dX2_pick_69, dX2_pick_72, dX2_pick_73, dX2_pick_74, dX2_pick_77, dX2_pick_78, dX2_pick_79, dX2_pick_82, dX2_pick_85, dX2_pick_86, dX2_pick_89, dX2_pick_90, dX2_pick_92, dX2_pick_93, dX2_pick_95, dX2_pick_97, dX2_pick_98, dX2_pick_101, dX2_pick_102, dX2_pick_105, dX2_pick_107, dX2_pick_109, dX2_pick_111, dX2_pick_112, dX2_pick_113, dX2_pick_114, dX2_pick_117, dX2_pick_119, dX2_pick_121, dX2_pick_122, dX2_pick_124, dX2_pick_125, dX2_pick_126, dX2_pick_128, dX2_pick_131, dX2_pick_134, cpX2, mT_X2_pick, SHl_0, SHl_1, SHl_2, SHl_3, SHl_4, SHl_5, SHl_6, SHl_7, SHl_8, SHl_9, SHl_10, SHl_11, SHl_12, SHl_13, SHl_14, SHl_15, SHl_16, SHl_17, SHl_18, SHl_19, SHl_20, SHl_21, SHl_22, SHl_23, SHl_24, SHl_25, SHl_26, SHl_27, SHl_28, SHl_29, SHl_30, SHl_31, SHl_32, SHl_33, SHl_34, SHl_35, SHl_36, SHl_37, SHl_38, SHl_39, SHl_40, SHl_41, SHl_42, SHl_43, SHl_44, SHl_45, SHl_46, SHl_47, SHl_48, SHl_49, SHl_50, SHl_51, SHl_52, SHl_53, SHl_54, SHl_55, SHl_56, SHl_57, S_J9_min_f86c9, b0, b1, b2, b3, b4, b5, b6, b7, Nat.add_left_cancel_iff, Bool.or_true, Bool.or_false, Bool.true_or, Bool.false_or]
      refine ⟨⟨by omega, by omega⟩, ⟨by omega, by omega⟩, fun _ => ⟨by omega, by omega, by omega, by omega, ⟨by omega, by omega⟩, ⟨by omega, by omega⟩, by omega, ?_⟩, fun q => by omega⟩
      rw [hbest, hways]
      refine loop2 (ncV V) 0 (by omega) _ (fstN f t) _ _ (only_set (only_set (fun q _ => rfl) (Or.inl rfl)) (Or.inl rfl)) ?_ ?_ ?_ (fun x hx => absurd hx (Nat.not_lt_zero x)) (fun _ => ?_)
      · rw [hset_s (by decide), hset_same]
      · rw [hset_same]
      · rw [hset_s (by decide), hset_s (by decide)]
      · rw [hf, ht]; rfl
    | succ d ih =>
      intro t ht
      have c1 := cb t
      have fl : fstN f t < 24 := by
        by_cases e : t = 0
        · subst e; show 0 < 24; decide
        · have := fk t (by omega) (by omega)
          omega
      have hl : (fstN f t = 0 ∧ cntN f g t = 0 ∧ lstN f t = 1000000 ∧ f (fstN f t) = f t ∧ t = 0) ∨ lstN f t = f (fstN f t) := by
        by_cases e : t = 0
        · subst e; exact Or.inl ⟨rfl, rfl, rfl, rfl, rfl⟩
        · exact Or.inr (fk t (by omega) (by omega)).2.symm
      have t1 := ft t (by omega)
      have t2 := ft (fstN f t) fl
      have fb1 := fb t (by omega)
      have fb2 := fb (fstN f t) fl
      have gb1 := gb t
      have hK7 : ∀ a cnt : Int, a = (fstN f (t + 1) : Nat) → cnt = cntN f g (t + 1) → K 7 [some (.inr (.inl b)), some (.inl (V 0 1)), some (.inl a), some (.inr (.inr cnt)), none, some (.inl ((t : Int) + 1)), none] [] σ := by
        intro a cnt h1 h2
        subst h1 h2
        exact ih (t + 1) (by omega)
      rw [fstN_s, cntN_s] at hK7
      refine hK (fun q => q == 7 || q == 95) 100 _ _ _ _ ?_
      simp only [↓wp, ↓stp, ilen, lnth, st1, st2, nolong, nohead, rnth, ↓gfX, ↓pfX, gfV, pfV, cpF, cpP, cndZ, ↓tgo, ↓tsw, ↓lsw, ↓ldI, ↓ldA, ↓ldL, ↓stI, ↓stA, ↓stL, ↓bin, ↓binD, ↓binL, ↓binDL, ↓una, ↓acV, ↓acK, ↓acpy, ↓inv, entL, nones, List.length_cons, List.length_nil, List.take, List.drop, List.reverse_cons, List.reverse_nil, List.nil_append, List.cons_append, Option.toList_some, Option.toList_none, Nat.reduceAdd, Nat.reduceSub, Nat.reduceLT, Nat.reduceEqDiff, Fin.isValue, aTL, aSZ, Int.toNat_natCast, hset_same, hset_o, hset_s, hset_row, ne_eq, Nat.reduceBEq, beq_self_eq_true, Fin.val_zero, Fin.val_one, fin0, fin1, fin2, fin3, Nat.le_refl, Nat.reduceLeDiff, Nat.zero_le, Int.reduceAdd, Int.reduceNeg, Int.reduceLE, Int.reduceLT, Int.reduceToNat, Int.reduceMul, Int.cast_ofNat_Int, Nat.reduceMod, ↓reduceIte, if_true, if_false, and_true, true_and, or_true, true_or, false_or, or_false, and_self, not_true_eq_false, not_false_eq_true, Bool.false_eq_true, reduceCtorEq, false_implies, true_implies, implies_true, and_false, false_and, dX2_pick_0, dX2_pick_1, dX2_pick_2, dX2_pick_3, dX2_pick_4, dX2_pick_5, dX2_pick_7, dX2_pick_9, dX2_pick_11, dX2_pick_14, dX2_pick_15, dX2_pick_18, dX2_pick_20, dX2_pick_21, dX2_pick_22, dX2_pick_25, dX2_pick_26, dX2_pick_27, dX2_pick_30, dX2_pick_32, dX2_pick_33, dX2_pick_34, dX2_pick_35, dX2_pick_36, dX2_pick_39, dX2_pick_41, dX2_pick_42, dX2_pick_43, dX2_pick_46, dX2_pick_47, dX2_pick_48, dX2_pick_51, dX2_pick_52, dX2_pick_53, dX2_pick_56, dX2_pick_58, dX2_pick_59, dX2_pick_60, dX2_pick_61, dX2_pick_64, dX2_pick_67, dX2_pick_68, dX2_pick_69, dX2_pick_72, dX2_pick_73, dX2_pick_74, dX2_pick_77, dX2_pick_78, dX2_pick_79, dX2_pick_82, dX2_pick_85, dX2_pick_86, dX2_pick_89, dX2_pick_90, dX2_pick_92, dX2_pick_93, dX2_pick_95, dX2_pick_97, dX2_pick_98, dX2_pick_101, dX2_pick_102, dX2_pick_105, dX2_pick_107, dX2_pick_109, dX2_pick_111, dX2_pick_112, dX2_pick_113, dX2_pick_114, dX2_pick_117, dX2_pick_119, dX2_pick_121, dX2_pick_122, dX2_pick_124, dX2_pick_125, dX2_pick_126, dX2_pick_128, dX2_pick_131, dX2_pick_134, cpX2, mT_X2_pick, SHl_0, SHl_1, SHl_2, SHl_3, SHl_4, SHl_5, SHl_6, SHl_7, SHl_8, SHl_9, SHl_10, SHl_11, SHl_12, SHl_13, SHl_14, SHl_15, SHl_16, SHl_17, SHl_18, SHl_19, SHl_20, SHl_21, SHl_22, SHl_23, SHl_24, SHl_25, SHl_26, SHl_27, SHl_28, SHl_29, SHl_30, SHl_31, SHl_32, SHl_33, SHl_34, SHl_35, SHl_36, SHl_37, SHl_38, SHl_39, SHl_40, SHl_41, SHl_42, SHl_43, SHl_44, SHl_45, SHl_46, SHl_47, SHl_48, SHl_49, SHl_50, SHl_51, SHl_52, SHl_53, SHl_54, SHl_55, SHl_56, SHl_57, S_J9_min_f86c9, b0, b1, b2, b3, b4, b5, b6, b7, Nat.add_left_cancel_iff, Bool.or_true, Bool.or_false, Bool.true_or, Bool.false_or]
      rw [t1.1, t1.2, t2.1]
      (repeat' (first | apply And.intro | intro _)) <;> first | omega | (apply hK7 <;> (repeat' split) <;> omega)
  refine hK (fun q => q == 7) 100 _ _ _ _ ?_
  simp only [↓wp, ↓stp, ilen, lnth, st1, st2, nolong, nohead, rnth, ↓gfX, ↓pfX, gfV, pfV, cpF, cpP, cndZ, ↓tgo, ↓tsw, ↓lsw, ↓ldI, ↓ldA, ↓ldL, ↓stI, ↓stA, ↓stL, ↓bin, ↓binD, ↓binL, ↓binDL, ↓una, ↓acV, ↓acK, ↓acpy, ↓inv, entL, nones, List.length_cons, List.length_nil, List.take, List.drop, List.reverse_cons, List.reverse_nil, List.nil_append, List.cons_append, Option.toList_some, Option.toList_none, Nat.reduceAdd, Nat.reduceSub, Nat.reduceLT, Nat.reduceEqDiff, Fin.isValue, aTL, aSZ, Int.toNat_natCast, hset_same, hset_o, hset_s, hset_row, ne_eq, Nat.reduceBEq, beq_self_eq_true, Fin.val_zero, Fin.val_one, fin0, fin1, fin2, fin3, Nat.le_refl, Nat.reduceLeDiff, Nat.zero_le, Int.reduceAdd, Int.reduceNeg, Int.reduceLE, Int.reduceLT, Int.reduceToNat, Int.reduceMul, Int.cast_ofNat_Int, Nat.reduceMod, ↓reduceIte, if_true, if_false, and_true, true_and, or_true, true_or, false_or, or_false, and_self, not_true_eq_false, not_false_eq_true, Bool.false_eq_true, reduceCtorEq, false_implies, true_implies, implies_true, and_false, false_and, dX2_pick_0, dX2_pick_1, dX2_pick_2, dX2_pick_3, dX2_pick_4, dX2_pick_5, dX2_pick_7, dX2_pick_9, dX2_pick_11, dX2_pick_14, dX2_pick_15, dX2_pick_18, dX2_pick_20, dX2_pick_21, dX2_pick_22, dX2_pick_25, dX2_pick_26, dX2_pick_27, dX2_pick_30, dX2_pick_32, dX2_pick_33, dX2_pick_34, dX2_pick_35, dX2_pick_36, dX2_pick_39, dX2_pick_41, dX2_pick_42, dX2_pick_43, dX2_pick_46, dX2_pick_47, dX2_pick_48, dX2_pick_51, dX2_pick_52, dX2_pick_53, dX2_pick_56, dX2_pick_58, dX2_pick_59, dX2_pick_60, dX2_pick_61, dX2_pick_64, dX2_pick_67, dX2_pick_68, dX2_pick_69, dX2_pick_72, dX2_pick_73, dX2_pick_74, dX2_pick_77, dX2_pick_78, dX2_pick_79, dX2_pick_82, dX2_pick_85, dX2_pick_86, dX2_pick_89, dX2_pick_90, dX2_pick_92, dX2_pick_93, dX2_pick_95, dX2_pick_97, dX2_pick_98, dX2_pick_101, dX2_pick_102, dX2_pick_105, dX2_pick_107, dX2_pick_109, dX2_pick_111, dX2_pick_112, dX2_pick_113, dX2_pick_114, dX2_pick_117, dX2_pick_119, dX2_pick_121, dX2_pick_122, dX2_pick_124, dX2_pick_125, dX2_pick_126, dX2_pick_128, dX2_pick_131, dX2_pick_134, cpX2, mT_X2_pick, SHl_0, SHl_1, SHl_2, SHl_3, SHl_4, SHl_5, SHl_6, SHl_7, SHl_8, SHl_9, SHl_10, SHl_11, SHl_12, SHl_13, SHl_14, SHl_15, SHl_16, SHl_17, SHl_18, SHl_19, SHl_20, SHl_21, SHl_22, SHl_23, SHl_24, SHl_25, SHl_26, SHl_27, SHl_28, SHl_29, SHl_30, SHl_31, SHl_32, SHl_33, SHl_34, SHl_35, SHl_36, SHl_37, SHl_38, SHl_39, SHl_40, SHl_41, SHl_42, SHl_43, SHl_44, SHl_45, SHl_46, SHl_47, SHl_48, SHl_49, SHl_50, SHl_51, SHl_52, SHl_53, SHl_54, SHl_55, SHl_56, SHl_57, S_J9_min_f86c9, b0, b1, b2, b3, b4, b5, b6, b7, Nat.add_left_cancel_iff]
  exact loop1 24 0 (by omega)
/-- solve: the cheapest windows of a piece -/
def svP (b : Nat) : Nat → Prop := fun q => q = b ∨ q = b + 1 ∨ q = b + 4 ∨ q = b + 5 ∨ q = b + 6
def svOk (σ τ : HP) (b : Nat) (V : HP) : Prop := only σ τ (svP b) ∧ τ b 0 = bestV V ∧ τ b 1 = min (waysV V) 99999999 ∧ τ b 2 = σ b 2 ∧ ∀ c, c < ncV V → τ (b + 1) c = (winV V c : Int) - 15
def S_X2_solve : MSpec := fun a σ Q => match a with
  | [.inr (.inl b), .inr (.inl p)] => isBs b ∧ isPc p ∧ sepBP b p ∧ okV (vC σ p) ∧ 1 ≤ σ p 1 ∧ ∀ τ, svOk σ τ b (vC σ p) → Q none τ
  | _ => False
theorem rc_X2_solve : ∀ a σ Q, S_X2_solve a σ Q → ∃ (p : Nat) (r : List AV), a = .inr (.inl p) :: r ∧ p < 76 ∧ (SH p).1 = 4 ∧ (SH p).2.1 = 2 := by
  intro a σ Q h
  unfold S_X2_solve at h
  split at h
  · exact ⟨_, _, rfl, h.1.lt, by rw [h.1.1], by rw [h.1.1]⟩
  · exact h.elim
def mT_X2_solve (i : Nat) : Option (Nat × Bool × MSpec) := match i with
  | 49 => some (4, true, S_X2_goOn)
  | 53 => some (3, true, S_X4_priceBy)
  | 57 => some (2, true, S_X2_pick)
  | _ => none
theorem mT_X2_solve_ok {l : Launch} {n : Nat} (hn : 3 ≤ n) : ∀ i e, mT_X2_solve i = some e → mV l (rmOf n) RX2 i e := by
  intro i e h
  unfold mT_X2_solve at h
  split at h
  · cases h; exact mvI (lv := 1) (ci := 2) (T := TX2) (N := 10) mw_X2_goOn rfl (by omega) (by decide) (by decide +kernel) (gtm 536 (by decide +kernel) (by decide +kernel)) rc_X2_goOn ok_X2_goOn
  · cases h; exact mvI (lv := 2) (ci := 3) (T := TX4) (N := 9) mw_X4_priceBy rfl (by omega) (by decide) (by decide +kernel) (gtm 549 (by decide +kernel) (by decide +kernel)) rc_X4_priceBy ok_X4_priceBy
  · cases h; exact mvI (lv := 1) (ci := 2) (T := TX2) (N := 10) mw_X2_pick rfl (by omega) (by decide) (by decide +kernel) (gtm 563 (by decide +kernel) (by decide +kernel)) rc_X2_pick ok_X2_pick
  · cases h
set_option maxRecDepth 100000 in
set_option maxHeartbeats 16000000 in
theorem ok_X2_solve : ∀ l n, 3 ≤ n → ∀ a σ Q, S_X2_solve a σ Q → AM l n yX2_solve cX2_solve 5 none a σ Q := by
  intro l n hn a σ Q hS
  unfold S_X2_solve at hS
  split at hS
  rotate_left
  · exact hS.elim
  rename_i b p
  obtain ⟨hB, hPc, hsep, hV, n1, hq⟩ := hS
  obtain ⟨b0, b1, b2, b3, b4, b5, b6, b7, b8⟩ := id hB
  obtain ⟨k0, k1, k2, k3, k4, k5, k6, k7⟩ := id hPc
  obtain ⟨V, hVe⟩ : ∃ V, V = vC σ p := ⟨_, rfl⟩
  rw [← hVe] at hV hq
  obtain ⟨v0, v1, v2⟩ := vC_0 σ p
  rw [← hVe] at v0 v1 v2
  obtain ⟨o1, o2, o3, -, oc, on⟩ := id hV
  have hnc : (ncV V : Int) = σ p 1 := by unfold ncV; rw [v1]; omega
  have tP : ∀ q, (q = b + 4 ∨ q = b + 5 ∨ q = b + 6) → svP b q := fun q h => by unfold svP; omega
  unfold sepBP at hsep
  have pn : ∀ i, i ≤ 6 → ¬ (p + i = b + 4 ∨ p + i = b + 5 ∨ p + i = b + 6) := fun i hi => by omega
  refine am_ofF 0 cpX2 mT_X2_solve (plainFor_of_name (by decide +kernel)) (rfl) (Nat.le_of_ble_eq_true rfl) (cpX2_ok) (mT_X2_solve_ok hn) (fun K hK => ?_)
  have inner : ∀ c, c < ncV V → (∀ τ, only σ τ (fun q => q = b + 4 ∨ q = b + 5 ∨ q = b + 6) → (∀ x, c ≤ x → x < ncV V → tabV τ b V x) → ∀ u4 : Option AV, K 7 [some (.inr (.inl b)), some (.inr (.inl p)), some (.inl ((c : Int) - 1)), some (.inl 24), u4] [] τ) → ∀ (d a : Nat), a + d = 24 → ∀ τ, only σ τ (fun q => q = b + 4 ∨ q = b + 5 ∨ q = b + 6) → (∀ x, c < x → x < ncV V → tabV τ b V x) → (∀ t, t < a → τ (b + 4) (24 * c + t) = ddV V c t ∧ τ (b + 5) (24 * c + t) = wwV V c t ∧ τ (b + 6) (24 * c + t) = nnV V c t) → ∀ u4 : Option AV, K 13 [some (.inr (.inl b)), some (.inr (.inl p)), some (.inl (c : Int)), some (.inl (a : Int)), u4] [] τ := by
    intro c hc hback d
    induction d with
    | zero =>
      intro a ha τ ho hx ht u4
      refine hK (fun q => q == 7 || q == 13) 100 _ _ _ _ ?_
      simp only [↓wp, ↓stp, ilen, lnth, st1, st2, nolong, nohead, rnth, ↓gfX, ↓pfX, gfV, pfV, cpF, cpP, cndZ, ↓tgo, ↓tsw, ↓lsw, ↓ldI, ↓ldA, ↓ldL, ↓stI, ↓stA, ↓stL, ↓bin, ↓binD, ↓binL, ↓binDL, ↓una, ↓acV, ↓acK, ↓acpy, ↓inv, entL, nones, List.length_cons, List.length_nil, List.take, List.drop, List.reverse_cons, List.reverse_nil, List.nil_append, List.cons_append, Option.toList_some, Option.toList_none, Nat.reduceAdd, Nat.reduceSub, Nat.reduceLT, Nat.reduceEqDiff, Fin.isValue, aTL, aSZ, Int.toNat_natCast, hset_same, hset_o, hset_s, hset_row, ne_eq, Nat.reduceBEq, beq_self_eq_true, Fin.val_zero, Fin.val_one, fin0, fin1, fin2, fin3, Nat.le_refl, Nat.reduceLeDiff, Nat.zero_le, Int.reduceAdd, Int.reduceNeg, Int.reduceLE, Int.reduceLT, Int.reduceToNat, Int.reduceMul, Int.cast_ofNat_Int, Nat.reduceMod, ↓reduceIte, if_true, if_false, and_true, true_and, or_true, true_or, false_or, or_false, and_self, not_true_eq_false, not_false_eq_true, Bool.false_eq_true, reduceCtorEq, false_implies, true_implies, implies_true, and_false, false_and, dX2_solve_0, dX2_solve_1, dX2_solve_4, dX2_solve_5, dX2_solve_6, dX2_solve_7, dX2_solve_8, dX2_solve_11, dX2_solve_12, dX2_solve_13, dX2_solve_14, dX2_solve_16, dX2_solve_19, dX2_solve_20, dX2_solve_22, dX2_solve_23, dX2_solve_24, dX2_solve_25, dX2_solve_27, dX2_solve_28, dX2_solve_29, dX2_solve_30, dX2_solve_31, dX2_solve_34, dX2_solve_35, dX2_solve_38, dX2_solve_40, dX2_solve_41, dX2_solve_42, dX2_solve_43, dX2_solve_44, dX2_solve_46, dX2_solve_47, dX2_solve_48, dX2_solve_51, dX2_solve_52, dX2_solve_53, dX2_solve_56, dX2_solve_59, dX2_solve_62, dX2_solve_65, dX2_solve_66, dX2_solve_67, dX2_solve_70, dX2_solve_73, cpX2, mT_X2_solve, SHl_0, SHl_1, SHl_2, SHl_3, SHl_4, SHl_5, SHl_6, SHl_7, SHl_8, SHl_9, SHl_10, SHl_11, SHl_12, SHl_13, SHl_14, SHl_15, SHl_16, SHl_17, SHl_18, SHl_19, SHl_20, SHl_21, SHl_22, SHl_23, SHl_24, SHl_25, SHl_26, SHl_27, SHl_28, SHl_29, SHl_30, SHl_31, SHl_32, SHl_33, SHl_34, SHl_35, SHl_36, SHl_37, SHl_38, SHl_39, SHl_40, SHl_41, SHl_42, SHl_43, SHl_44, SHl_45, SHl_46, SHl_47, SHl_48, SHl_49, SHl_50, SHl_51, SHl_52, SHl_53, SHl_54, SHl_55, SHl_56, SHl_57, S_X2_goOn, S_X2_pick, S_X4_priceBy, b0, b1, b2, b3, b4, b5, b6, b7, k0, k1, k2, k3, k4, k5, k6, Nat.add_left_cancel_iff, Bool.or_true, Bool.or_false, Bool.true_or, Bool.false_or]
      refine ⟨⟨by omega, by omega⟩, ⟨by omega, by omega⟩, fun _ => ?_, fun q => by omega⟩
      have hh := hback τ ho (fun x h1 h2 => by
        by_cases e : x = c
        · subst e
          intro t htt
          exact ht t (by omega)
        · exact hx x (by omega) h2) u4
      rw [show (a : Int) = 24 by omega]
      exact hh
    | succ d ih =>
      intro a ha τ ho hx ht u4
      have hVt : vC τ p = V := by rw [vC_only ho pn, hVe]
      have p1 : τ p 1 = σ p 1 := by rw [ho p (by have := pn 0 (by omega); omega)]
      have pb := pV_b (V := V) (c := c) (x := (a : Int) - 15) hV (by omega) (by omega) (by omega)
      refine hK (fun q => q == 7 || q == 13) 100 _ _ _ _ ?_
      simp only [↓wp, ↓stp, ilen, lnth, st1, st2, nolong, nohead, rnth, ↓gfX, ↓pfX, gfV, pfV, cpF, cpP, cndZ, ↓tgo, ↓tsw, ↓lsw, ↓ldI, ↓ldA, ↓ldL, ↓stI, ↓stA, ↓stL, ↓bin, ↓binD, ↓binL, ↓binDL, ↓una, ↓acV, ↓acK, ↓acpy, ↓inv, entL, nones, List.length_cons, List.length_nil, List.take, List.drop, List.reverse_cons, List.reverse_nil, List.nil_append, List.cons_append, Option.toList_some, Option.toList_none, Nat.reduceAdd, Nat.reduceSub, Nat.reduceLT, Nat.reduceEqDiff, Fin.isValue, aTL, aSZ, Int.toNat_natCast, hset_same, hset_o, hset_s, hset_row, ne_eq, Nat.reduceBEq, beq_self_eq_true, Fin.val_zero, Fin.val_one, fin0, fin1, fin2, fin3, Nat.le_refl, Nat.reduceLeDiff, Nat.zero_le, Int.reduceAdd, Int.reduceNeg, Int.reduceLE, Int.reduceLT, Int.reduceToNat, Int.reduceMul, Int.cast_ofNat_Int, Nat.reduceMod, ↓reduceIte, if_true, if_false, and_true, true_and, or_true, true_or, false_or, or_false, and_self, not_true_eq_false, not_false_eq_true, Bool.false_eq_true, reduceCtorEq, false_implies, true_implies, implies_true, and_false, false_and, dX2_solve_0, dX2_solve_1, dX2_solve_4, dX2_solve_5, dX2_solve_6, dX2_solve_7, dX2_solve_8, dX2_solve_11, dX2_solve_12, dX2_solve_13, dX2_solve_14, dX2_solve_16, dX2_solve_19, dX2_solve_20, dX2_solve_22, dX2_solve_23, dX2_solve_24, dX2_solve_25, dX2_solve_27, dX2_solve_28, dX2_solve_29, dX2_solve_30, dX2_solve_31, dX2_solve_34, dX2_solve_35, dX2_solve_38, dX2_solve_40, dX2_solve_41, dX2_solve_42, dX2_solve_43, dX2_solve_44, dX2_solve_46, dX2_solve_47, dX2_solve_48, dX2_solve_51, dX2_solve_52, dX2_solve_53, dX2_solve_56, dX2_solve_59, dX2_solve_62, dX2_solve_65, dX2_solve_66, dX2_solve_67, dX2_solve_70, dX2_solve_73, cpX2, mT_X2_solve, SHl_0, SHl_1, SHl_2, SHl_3, SHl_4, SHl_5, SHl_6, SHl_7, SHl_8, SHl_9, SHl_10, SHl_11, SHl_12, SHl_13, SHl_14, SHl_15, SHl_16, SHl_17, SHl_18, SHl_19, SHl_20, SHl_21, SHl_22, SHl_23, SHl_24, SHl_25, SHl_26, SHl_27, SHl_28, SHl_29, SHl_30, SHl_31, SHl_32, SHl_33, SHl_34, SHl_35, SHl_36, SHl_37, SHl_38, SHl_39, SHl_40, SHl_41, SHl_42, SHl_43, SHl_44, SHl_45, SHl_46, SHl_47, SHl_48, SHl_49, SHl_50, SHl_51, SHl_52, SHl_53, SHl_54, SHl_55, SHl_56, SHl_57, S_X2_goOn, S_X2_pick, S_X4_priceBy, b0, b1, b2, b3, b4, b5, b6, b7, k0, k1, k2, k3, k4, k5, k6, Nat.add_left_cancel_iff, Bool.or_true, Bool.or_false, Bool.true_or, Bool.false_or]
      rw [hVt]
      obtain ⟨ω, hω⟩ : ∃ ω, ω = hset (hset (hset τ (b + 4) ((c : Int) * 24 + a).toNat (gcV V c a)) (b + 5) ((c : Int) * 24 + a).toNat (wwV V c a)) (b + 6) ((c : Int) * 24 + a).toNat (nnV V c a) := ⟨_, rfl⟩
      have hVo : vC ω p = V := by rw [hω, vC_hset (by omega), vC_hset (by omega), vC_hset (by omega), hVt]
      have q1 : ω p 1 = τ p 1 := by rw [hω, hset_o (by omega), hset_o (by omega), hset_o (by omega)]
      have i1 : ((c : Int) * 24 + a).toNat = 24 * c + a := by omega
      rw [← hω, hVo, q1, p1]
      refine ⟨⟨by omega, by omega⟩, ⟨by omega, by omega⟩, fun q => by omega, fun _ => ⟨hB, hPc, hV, by omega, by omega, fun h => hx (c + 1) (by omega) (by omega), by omega, by omega, by omega, hPc, hV, by omega, by omega, by omega, by omega, by omega, ?_⟩⟩
      have hval : gcV V c a + pV V c (-15 + (a : Int)) = ddV V c a := by
        rw [ddV_eq hc, show (-15 + (a : Int)) = (a : Int) - 15 by omega]
      rw [hval]
      refine ih (a + 1) (by omega) _ ?_ ?_ ?_ _
      · rw [hω]
        exact only_set (only_set (only_set (only_set ho (Or.inl rfl)) (Or.inr (Or.inl rfl))) (Or.inr (Or.inr rfl))) (Or.inl rfl)
      · intro x h1 h2 t ht'
        have := hx x h1 h2 t ht'
        rw [hω, i1]
        rw [hset_s (by omega), hset_o (q := b + 4) (by omega), hset_o (q := b + 4) (by omega), hset_s (by omega)]
        rw [hset_o (q := b + 5) (by omega), hset_o (q := b + 5) (by omega), hset_s (by omega), hset_o (q := b + 5) (by omega)]
        rw [hset_o (q := b + 6) (by omega), hset_s (by omega), hset_o (q := b + 6) (by omega), hset_o (q := b + 6) (by omega)]
        exact this
      · intro t ht'
        rw [hω, i1]
        by_cases e : t = a
        · subst e
          refine ⟨hset_same, ?_, ?_⟩
          · rw [hset_o (by omega), hset_o (by omega), hset_same]
          · rw [hset_o (by omega), hset_same]
        · have := ht t (by omega)
          rw [hset_s (by omega), hset_o (q := b + 4) (by omega), hset_o (q := b + 4) (by omega), hset_s (by omega)]
          rw [hset_o (q := b + 5) (by omega), hset_o (q := b + 5) (by omega), hset_s (by omega), hset_o (q := b + 5) (by omega)]
          rw [hset_o (q := b + 6) (by omega), hset_s (by omega), hset_o (q := b + 6) (by omega), hset_o (q := b + 6) (by omega)]
          exact this
  have outer : ∀ (c : Nat), c ≤ ncV V → ∀ τ, only σ τ (fun q => q = b + 4 ∨ q = b + 5 ∨ q = b + 6) → (∀ x, c ≤ x → x < ncV V → tabV τ b V x) → ∀ u3 u4 : Option AV, K 7 [some (.inr (.inl b)), some (.inr (.inl p)), some (.inl ((c : Int) - 1)), u3, u4] [] τ := by
    intro c
    induction c with
    | zero =>
      intro hc τ ho hx u3 u4
      have p1 : τ p 1 = σ p 1 := by rw [ho p (by have := pn 0 (by omega); omega)]
      refine hK (fun q => q == 7 || q == 13) 100 _ _ _ _ ?_
      simp only [↓wp, ↓stp, ilen, lnth, st1, st2, nolong, nohead, rnth, ↓gfX, ↓pfX, gfV, pfV, cpF, cpP, cndZ, ↓tgo, ↓tsw, ↓lsw, ↓ldI, ↓ldA, ↓ldL, ↓stI, ↓stA, ↓stL, ↓bin, ↓binD, ↓binL, ↓binDL, ↓una, ↓acV, ↓acK, ↓acpy, ↓inv, entL, nones, List.length_cons, List.length_nil, List.take, List.drop, List.reverse_cons, List.reverse_nil, List.nil_append, List.cons_append, Option.toList_some, Option.toList_none, Nat.reduceAdd, Nat.reduceSub, Nat.reduceLT, Nat.reduceEqDiff, Fin.isValue, aTL, aSZ, Int.toNat_natCast, hset_same, hset_o, hset_s, hset_row, ne_eq, Nat.reduceBEq, beq_self_eq_true, Fin.val_zero, Fin.val_one, fin0, fin1, fin2, fin3, Nat.le_refl, Nat.reduceLeDiff, Nat.zero_le, Int.reduceAdd, Int.reduceNeg, Int.reduceLE, Int.reduceLT, Int.reduceToNat, Int.reduceMul, Int.cast_ofNat_Int, Nat.reduceMod, ↓reduceIte, if_true, if_false, and_true, true_and, or_true, true_or, false_or, or_false, and_self, not_true_eq_false, not_false_eq_true, Bool.false_eq_true, reduceCtorEq, false_implies, true_implies, implies_true, and_false, false_and, dX2_solve_0, dX2_solve_1, dX2_solve_4, dX2_solve_5, dX2_solve_6, dX2_solve_7, dX2_solve_8, dX2_solve_11, dX2_solve_12, dX2_solve_13, dX2_solve_14, dX2_solve_16, dX2_solve_19, dX2_solve_20, dX2_solve_22, dX2_solve_23, dX2_solve_24, dX2_solve_25, dX2_solve_27, dX2_solve_28, dX2_solve_29, dX2_solve_30, dX2_solve_31, dX2_solve_34, dX2_solve_35, dX2_solve_38, dX2_solve_40, dX2_solve_41, dX2_solve_42, dX2_solve_43, dX2_solve_44, dX2_solve_46, dX2_solve_47, dX2_solve_48, dX2_solve_51, dX2_solve_52, dX2_solve_53, dX2_solve_56, dX2_solve_59, dX2_solve_62, dX2_solve_65, dX2_solve_66, dX2_solve_67, dX2_solve_70, dX2_solve_73, cpX2, mT_X2_solve, SHl_0, SHl_1, SHl_2, SHl_3, SHl_4, SHl_5, SHl_6, SHl_7, SHl_8, SHl_9, SHl_10, SHl_11, SHl_12, SHl_13, SHl_14, SHl_15, SHl_16, SHl_17, SHl_18, SHl_19, SHl_20, SHl_21, SHl_22, SHl_23, SHl_24, SHl_25, SHl_26, SHl_27, SHl_28, SHl_29, SHl_30, SHl_31, SHl_32, SHl_33, SHl_34, SHl_35, SHl_36, SHl_37, SHl_38, SHl_39, SHl_40, SHl_41, SHl_42, SHl_43, SHl_44, SHl_45, SHl_46, SHl_47, SHl_48, SHl_49, SHl_50, SHl_51, SHl_52, SHl_53, SHl_54, SHl_55, SHl_56, SHl_57, S_X2_goOn, S_X2_pick, S_X4_priceBy, b0, b1, b2, b3, b4, b5, b6, b7, k0, k1, k2, k3, k4, k5, k6, Nat.add_left_cancel_iff, Bool.or_true, Bool.or_false, Bool.true_or, Bool.false_or]
      refine ⟨⟨by omega, by omega⟩, fun _ => ⟨by omega, hB, V, hV, by rw [p1, v1], by omega, fun c h => hx c (Nat.zero_le c) h, ?_⟩, fun q => by omega⟩
      intro ρ h1 h2 h3 h4 h5
      refine hq ρ ⟨?_, h2, h3, ?_, h5⟩
      · intro q hqq
        unfold svP at hqq
        rw [h1 q (by unfold pkP; omega), ho q (by omega)]
      · rw [h4, ho b (by omega)]
    | succ c ih =>
      intro hc τ ho hx u3 u4
      refine hK (fun q => q == 7 || q == 13) 100 _ _ _ _ ?_
      simp only [↓wp, ↓stp, ilen, lnth, st1, st2, nolong, nohead, rnth, ↓gfX, ↓pfX, gfV, pfV, cpF, cpP, cndZ, ↓tgo, ↓tsw, ↓lsw, ↓ldI, ↓ldA, ↓ldL, ↓stI, ↓stA, ↓stL, ↓bin, ↓binD, ↓binL, ↓binDL, ↓una, ↓acV, ↓acK, ↓acpy, ↓inv, entL, nones, List.length_cons, List.length_nil, List.take, List.drop, List.reverse_cons, List.reverse_nil, List.nil_append, List.cons_append, Option.toList_some, Option.toList_none, Nat.reduceAdd, Nat.reduceSub, Nat.reduceLT, Nat.reduceEqDiff, Fin.isValue, aTL, aSZ, Int.toNat_natCast, hset_same, hset_o, hset_s, hset_row, ne_eq, Nat.reduceBEq, beq_self_eq_true, Fin.val_zero, Fin.val_one, fin0, fin1, fin2, fin3, Nat.le_refl, Nat.reduceLeDiff, Nat.zero_le, Int.reduceAdd, Int.reduceNeg, Int.reduceLE, Int.reduceLT, Int.reduceToNat, Int.reduceMul, Int.cast_ofNat_Int, Nat.reduceMod, ↓reduceIte, if_true, if_false, and_true, true_and, or_true, true_or, false_or, or_false, and_self, not_true_eq_false, not_false_eq_true, Bool.false_eq_true, reduceCtorEq, false_implies, true_implies, implies_true, and_false, false_and, dX2_solve_0, dX2_solve_1, dX2_solve_4, dX2_solve_5, dX2_solve_6, dX2_solve_7, dX2_solve_8, dX2_solve_11, dX2_solve_12, dX2_solve_13, dX2_solve_14, dX2_solve_16, dX2_solve_19, dX2_solve_20, dX2_solve_22, dX2_solve_23, dX2_solve_24, dX2_solve_25, dX2_solve_27, dX2_solve_28, dX2_solve_29, dX2_solve_30, dX2_solve_31, dX2_solve_34, dX2_solve_35, dX2_solve_38, dX2_solve_40, dX2_solve_41, dX2_solve_42, dX2_solve_43, dX2_solve_44, dX2_solve_46, dX2_solve_47, dX2_solve_48, dX2_solve_51, dX2_solve_52, dX2_solve_53, dX2_solve_56, dX2_solve_59, dX2_solve_62, dX2_solve_65, dX2_solve_66, dX2_solve_67, dX2_solve_70, dX2_solve_73, cpX2, mT_X2_solve, SHl_0, SHl_1, SHl_2, SHl_3, SHl_4, SHl_5, SHl_6, SHl_7, SHl_8, SHl_9, SHl_10, SHl_11, SHl_12, SHl_13, SHl_14, SHl_15, SHl_16, SHl_17, SHl_18, SHl_19, SHl_20, SHl_21, SHl_22, SHl_23, SHl_24, SHl_25, SHl_26, SHl_27, SHl_28, SHl_29, SHl_30, SHl_31, SHl_32, SHl_33, SHl_34, SHl_35, SHl_36, SHl_37, SHl_38, SHl_39, SHl_40, SHl_41, SHl_42, SHl_43, SHl_44, SHl_45, SHl_46, SHl_47, SHl_48, SHl_49, SHl_50, SHl_51, SHl_52, SHl_53, SHl_54, SHl_55, SHl_56, SHl_57, S_X2_goOn, S_X2_pick, S_X4_priceBy, b0, b1, b2, b3, b4, b5, b6, b7, k0, k1, k2, k3, k4, k5, k6, Nat.add_left_cancel_iff, Bool.or_true, Bool.or_false, Bool.true_or, Bool.false_or]
      refine ⟨⟨by omega, by omega⟩, fun q => by omega, fun _ => ?_⟩
      have hh := inner c (by omega) (fun τ h1 h2 u4 => ih (by omega) τ h1 h2 _ u4) 24 0 (by omega) τ ho (fun x h1 h2 => hx x (by omega) h2) (fun t h => absurd h (Nat.not_lt_zero t)) u4
      rw [show ((c + 1 : Nat) : Int) - 1 = (c : Int) by omega]
      exact hh
  refine hK (fun q => q == 7 || q == 13) 100 _ _ _ _ ?_
  simp only [↓wp, ↓stp, ilen, lnth, st1, st2, nolong, nohead, rnth, ↓gfX, ↓pfX, gfV, pfV, cpF, cpP, cndZ, ↓tgo, ↓tsw, ↓lsw, ↓ldI, ↓ldA, ↓ldL, ↓stI, ↓stA, ↓stL, ↓bin, ↓binD, ↓binL, ↓binDL, ↓una, ↓acV, ↓acK, ↓acpy, ↓inv, entL, nones, List.length_cons, List.length_nil, List.take, List.drop, List.reverse_cons, List.reverse_nil, List.nil_append, List.cons_append, Option.toList_some, Option.toList_none, Nat.reduceAdd, Nat.reduceSub, Nat.reduceLT, Nat.reduceEqDiff, Fin.isValue, aTL, aSZ, Int.toNat_natCast, hset_same, hset_o, hset_s, hset_row, ne_eq, Nat.reduceBEq, beq_self_eq_true, Fin.val_zero, Fin.val_one, fin0, fin1, fin2, fin3, Nat.le_refl, Nat.reduceLeDiff, Nat.zero_le, Int.reduceAdd, Int.reduceNeg, Int.reduceLE, Int.reduceLT, Int.reduceToNat, Int.reduceMul, Int.cast_ofNat_Int, Nat.reduceMod, ↓reduceIte, if_true, if_false, and_true, true_and, or_true, true_or, false_or, or_false, and_self, not_true_eq_false, not_false_eq_true, Bool.false_eq_true, reduceCtorEq, false_implies, true_implies, implies_true, and_false, false_and, dX2_solve_0, dX2_solve_1, dX2_solve_4, dX2_solve_5, dX2_solve_6, dX2_solve_7, dX2_solve_8, dX2_solve_11, dX2_solve_12, dX2_solve_13, dX2_solve_14, dX2_solve_16, dX2_solve_19, dX2_solve_20, dX2_solve_22, dX2_solve_23, dX2_solve_24, dX2_solve_25, dX2_solve_27, dX2_solve_28, dX2_solve_29, dX2_solve_30, dX2_solve_31, dX2_solve_34, dX2_solve_35, dX2_solve_38, dX2_solve_40, dX2_solve_41, dX2_solve_42, dX2_solve_43, dX2_solve_44, dX2_solve_46, dX2_solve_47, dX2_solve_48, dX2_solve_51, dX2_solve_52, dX2_solve_53, dX2_solve_56, dX2_solve_59, dX2_solve_62, dX2_solve_65, dX2_solve_66, dX2_solve_67, dX2_solve_70, dX2_solve_73, cpX2, mT_X2_solve, SHl_0, SHl_1, SHl_2, SHl_3, SHl_4, SHl_5, SHl_6, SHl_7, SHl_8, SHl_9, SHl_10, SHl_11, SHl_12, SHl_13, SHl_14, SHl_15, SHl_16, SHl_17, SHl_18, SHl_19, SHl_20, SHl_21, SHl_22, SHl_23, SHl_24, SHl_25, SHl_26, SHl_27, SHl_28, SHl_29, SHl_30, SHl_31, SHl_32, SHl_33, SHl_34, SHl_35, SHl_36, SHl_37, SHl_38, SHl_39, SHl_40, SHl_41, SHl_42, SHl_43, SHl_44, SHl_45, SHl_46, SHl_47, SHl_48, SHl_49, SHl_50, SHl_51, SHl_52, SHl_53, SHl_54, SHl_55, SHl_56, SHl_57, S_X2_goOn, S_X2_pick, S_X4_priceBy, b0, b1, b2, b3, b4, b5, b6, b7, k0, k1, k2, k3, k4, k5, k6, Nat.add_left_cancel_iff, Bool.or_true, Bool.or_false, Bool.true_or, Bool.false_or]
  refine ⟨by omega, ?_⟩
  have hh := outer (ncV V) (Nat.le_refl _) σ (fun q _ => rfl) (fun x h1 h2 => by omega) none none
  rw [hnc] at hh
  exact hh
