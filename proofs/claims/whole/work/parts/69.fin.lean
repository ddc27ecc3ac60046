/-! ===== the law from its loop on ===== -/
theorem roL_cases {L k N : Nat} {f0 f : Nat → Int} (h : roL L f0 k = some (N, f)) : (k = 79 ∧ N = L ∧ f = f0) ∨ (k = 76 ∧ N = 6 ∧ f = fun j => [0, 0, 1, 1, 0, 4].getD j 0) ∨ (k = 77 ∧ N = 6 ∧ f = fun j => [10, 11, 12, 11, 13, 14].getD j 0) ∨ (k = 78 ∧ N = 6 ∧ f = fun j => [20, 21, 24, 22, 23, 23].getD j 0) := by
  unfold roL at h
  split at h
  · rename_i hk
    cases h
    exact Or.inl ⟨hk, rfl, rfl⟩
  · unfold roS at h
    split at h
    · cases h; exact Or.inr (Or.inl ⟨rfl, rfl, rfl⟩)
    · cases h; exact Or.inr (Or.inr (Or.inl ⟨rfl, rfl, rfl⟩))
    · cases h; exact Or.inr (Or.inr (Or.inr ⟨rfl, rfl, rfl⟩))
    · cases h
theorem law_fin {p : Program} {e : Env} {s : State} {m : MethodId} {below : List Frame} {meth : Method} {c : Code} (l : Launch) {b L : Nat} {xs : Nat → Int32} (hL : L ≤ 3072) (C0 : lw_At p s m meth c b L xs) {dT : Nat → ClassId} {D : va_G} (hK : va_K D vwCl (tysD dT) s) {ws : va_W} {H : Heap} {locs : List Loc} (hD : va_D (fun q : Nat => s.heap.size ≤ q) ws) (hP : va_P D vwCl ws H) (hS : va_S (fun q : Nat => s.heap.size ≤ q) s.heap H locs) {ad : Nat → Nat} (hc : ∀ k, k < 76 → ws[k]? = some (ad k, ce (ad, dT, D) (SH k) (σ0 k))) {tN tS tM a0 a58 : Nat} (g79 : ad 79 = b) (g76 : ad 76 = tN) (g77 : ad 77 = tS) (g78 : ad 78 = tM) (g0 : ad 0 = a0) (g58 : ad 58 = a58)
    (zN : va_Z RX1 "NEAREST" "[I" (.ref tN) (fun q : Nat => s.heap.size ≤ q) s s.heap) (xN : va_T .int tN 6 (fun j => .int (iI ([0, 0, 1, 1, 0, 4].getD j 0))) (fun q : Nat => s.heap.size ≤ q) s s.heap) (zS : va_Z RX1 "SIZE_BODIES" "[I" (.ref tS) (fun q : Nat => s.heap.size ≤ q) s s.heap) (xS : va_T .int tS 6 (fun j => .int (iI ([10, 11, 12, 11, 13, 14].getD j 0))) (fun q : Nat => s.heap.size ≤ q) s s.heap) (zM : va_Z RX1 "MARK_BODIES" "[I" (.ref tM) (fun q : Nat => s.heap.size ≤ q) s s.heap) (xM : va_T .int tM 6 (fun j => .int (iI ([20, 21, 24, 22, 23, 23].getD j 0))) (fun q : Nat => s.heap.size ≤ q) s s.heap)
    (ls : Array Slot) (hl : lv_has ls 4 [(0, .ref b), (1, .ref a0), (2, .ref a58), (3, .int (iI 0))]) : W p l e room_1 s m #[Value.ref b] below meth c H locs 76 5786 (lw_Z below #[Value.ref b] s) (F0 m 18 ls []) := by
  obtain ⟨hx, hb, hr, hml, hown, hts, hX, hbl, hlocks, hgv⟩ := id C0
  obtain ⟨G, hG⟩ : ∃ G : GT, G = (ad, dT, D) := ⟨_, rfl⟩
  have hbA : ¬ (fun q : Nat => s.heap.size ≤ q) b := Nat.not_le.mpr hbl
  have hPg : va_P G.2.2 vwCl (gw G σ0) H := by
    intro k q hk
    obtain ⟨hk76, rfl⟩ := gw_inv hk
    subst hG
    exact hP k _ (hc k hk76)
  have hinj : gInj G := by
    intro i j hi hj e
    subst hG
    exact hD.1 i j _ _ (hc i hi) (hc j hj) e
  have hAk : ∀ k, k < 76 → (fun q : Nat => s.heap.size ≤ q) (G.1 k) := by
    intro k hk
    subst hG
    exact hD.2 k _ (hc k hk)
  have xB : va_T .int b L (fun j => .int (iI ((xs j).toInt))) (fun q : Nat => s.heap.size ≤ q) s s.heap := by
    obtain ⟨scr, h1, h2, h3, h4, h5⟩ := hX
    refine ⟨scr, h1, h2, h3, by rw [h4]; exact Nat.le_refl _, by rw [h4] <;> rfl, fun j hj => ?_, hbA⟩
    show scr.slots[j]? = some (Value.int (iI (xs j).toInt))
    rw [iI_of]
    exact h5 j hj
  have hKN : KNs G (fun q : Nat => s.heap.size ≤ q) (roL L (fun j => (xs j).toInt)) s s.heap := by
    subst hG
    refine ⟨hK, hinj, ⟨by show va_Z RX1 "NEAREST" "[I" (.ref (ad 76)) _ _ _; rw [g76]; exact zN, by show va_Z RX1 "SIZE_BODIES" "[I" (.ref (ad 77)) _ _ _; rw [g77]; exact zS, by show va_Z RX1 "MARK_BODIES" "[I" (.ref (ad 78)) _ _ _; rw [g78]; exact zM⟩, fun k N f hk => ?_, va_Nw.of rfl (hts (.methodLinkNest RX6 76 yX7_isSignature RX7) (tmm 375 (by decide +kernel))), va_Nw.of rfl (hts (.methodLinkNest RX6 99 yX7_isKey RX7) (tmm 382 (by decide +kernel)))⟩
    show va_T .int (ad k) N (fun j => .int (iI (f j))) _ _ _ ∧ _
    rcases roL_cases hk with ⟨rfl, rfl, rfl⟩ | ⟨rfl, rfl, rfl⟩ | ⟨rfl, rfl, rfl⟩ | ⟨rfl, rfl, rfl⟩
    · rw [g79]
      exact ⟨xB, by omega⟩
    · rw [g76]
      exact ⟨xN, by decide⟩
    · rw [g77]
      exact ⟨xS, by decide⟩
    · rw [g78]
      exact ⟨xM, by decide⟩
  have C : CX p l room_1 s m #[Value.ref b] c 76 5786 (fun q : Nat => s.heap.size ≤ q) cL_law RL 4 G cpN mT_L_law (roL L (fun j => (xs j).toInt)) := by
    refine ⟨hx, hb, hml, hown, fun w hw => hts w (gtb_tbl hw), ⟨Nat.le_of_ble_eq_true rfl, Nat.le_of_ble_eq_true rfl, Nat.le_of_ble_eq_true rfl, Nat.le_of_ble_eq_true rfl⟩, hKN, hAk, fun k N f hk => ?_, cpN_ok _, fun i e h => mV_R (mT_L_law_ok (n := 15) (Nat.le_refl _) i e h) (Nat.le_of_ble_eq_true rfl) (Nat.le_of_ble_eq_true rfl)⟩
    unfold roL
    by_cases h79 : k = 79
    · subst h79
      cases hk
    · rw [if_neg h79]
      exact hk
  have hret : RTK p l e room_1 s m #[Value.ref b] below meth c 76 5786 (fun q : Nat => s.heap.size ≤ q) (lw_Z below #[Value.ref b] s) G cL_law 2 (fun r _ => r = some (.inl 1)) := by
    intro pc σ H locs lsA hP hS
    refine ⟨fun v hd hk hq => ?_, fun v hd hk => absurd hk (by decide), fun v hd hk => absurd hk (by decide), fun hd hk => absurd hk (by decide)⟩
    have hv : v = 1 := by
      cases hq
      rfl
    subst hv
    refine va_forget (fun q hq => hS.2.2 q hq) ?_
    refine W.widen (k := 600000) (n := 7302250) (Nat.le_of_ble_eq_true rfl) (Nat.le_of_ble_eq_true rfl) ?_
    rw [show iI 1 = 1 by decide +kernel]
    exact lw_ret hx hb hr hlocks hd
  have K0 := law_loop (K := AW p l e room_1 s m #[Value.ref b] below meth c 76 5786 (fun q : Nat => s.heap.size ≤ q) (lw_Z below #[Value.ref b] s) 4 G) (L := L) (f := fun j => (xs j).toInt) (fun stop k pc ls st σ hh => wp_sound C hret stop k pc ls st σ hh) (iv_sound C) (ieq_sound C) (fun j => R32_of _) hL (L + 7) 0 σ0 (by omega) (by omega) INV_0
  refine K0 H locs ls hPg hS ⟨rfl, ?_⟩
  subst hG
  show lv_has ls 4 [(0, .ref (ad 79)), (1, .ref (ad 0)), (2, .ref (ad 58)), (3, .int (iI 0))]
  rw [g79, g0, g58]
  exact hl
