/-! ===== the step ===== -/
theorem hset_arr {G : GT} {σ : HP} {p k : Nat} {v : Int} (h : (SH p).1 = 0 ∨ (SH p).1 = 2) : ∀ cA n, ce G (SH p) (σ p) = .inl (cA, n, .inl (fun j => iI (σ p j))) → ce G (SH p) (hset σ p k v p) = .inl (cA, n, .inl (upd (fun j => iI (σ p j)) k (iI v))) := by
  intro cA n e
  have hf : (fun j => iI (hset σ p k v p j)) = upd (fun j => iI (σ p j)) k (iI v) := by
    funext j
    rw [hset_eq]
    by_cases q : j = k
    · subst q; simp [upd]
    · simp [upd, q]
  rcases h with h | h
  · rw [ce_int h] at e ⊢
    rw [hf]
    cases e
    rfl
  · rw [ce_bool h] at e ⊢
    rw [hf]
    cases e
    rfl
theorem hset_long {G : GT} {σ : HP} {p k : Nat} {v : Int} (h : (SH p).1 = 1) : ce G (SH p) (hset σ p k v p) = .inl (G.2.1 1, (SH p).2.1, .inr (.inl (vp_updL (fun j => iL (σ p j)) k (iL v)))) := by
  rw [ce_long h]
  have hf : (fun j => iL (hset σ p k v p j)) = vp_updL (fun j => iL (σ p j)) k (iL v) := by
    funext j
    rw [hset_eq]
    by_cases q : j = k
    · subst q; simp [vp_updL]
    · simp [vp_updL, q]
  rw [hf]
theorem iI_01 {v : Int} (h : v = 0 ∨ v = 1) : vp_nar .boolean (iI v) = iI v ∧ narrow .boolean (.int (iI v)) = .int (iI v) ∧ fits .boolean (.int (iI v)) = true := by
  rcases h with rfl | rfl <;> exact ⟨by decide +kernel, by decide +kernel, by decide +kernel⟩
theorem hset_obj {G : GT} {σ : HP} {p k : Nat} {v : Int} (h : (SH p).1 = 4) (hr : rnth (SH p).2.2 k = some none) : ce G (SH p) (hset σ p k v p) = .inr ((SH p).2.1, (ceV G.1 (σ p) 0 (SH p).2.2).set k (.int (iI v))) := by
  rw [ce_obj h, ← ceV_set G.1 (σ p) v (SH p).2.2 0 k hr, hset_eq]
  simp only [Nat.zero_add]
theorem goodIn_gtb {ws : List Cond} (h : ∀ w ∈ ws, w ∈ gtb) : GoodIn gtb ws := fun w hw => ⟨h w hw, good_of_word (gtb_good (h w hw))⟩
theorem hcpy_ce {G : GT} {σ : HP} {a b : Nat} {sp dp n : Int} (h : (SH b).1 = 0) : ce G (SH b) (hcpy σ a sp b dp n b) = .inl (G.2.1 0, (SH b).2.1, .inl (va_cpy (fun j => iI (σ a j)) (fun j => iI (σ b j)) sp.toNat dp.toNat n.toNat)) := by
  rw [ce_int h]
  have hf : (fun j => iI (hcpy σ a sp b dp n b j)) = va_cpy (fun j => iI (σ a j)) (fun j => iI (σ b j)) sp.toNat dp.toNat n.toNat := by
    funext j
    by_cases q : dp.toNat ≤ j ∧ j < dp.toNat + n.toNat
    · rw [pk_cpy_in q.1 q.2]
      simp [hcpy, q]
    · rw [pk_cpy_out (by omega)]
      simp only [hcpy, true_and]
      rw [if_neg q]
  rw [hf]
theorem hcpy_ne {σ : HP} {a b q : Nat} {sp dp n : Int} (h : q ≠ b) : hcpy σ a sp b dp n q = σ q := by
  funext j
  simp [hcpy, h]
theorem iI_nn {z : Int} (h0 : 0 ≤ z) (h1 : z < 2147483648) : ¬ iI z < 0 ∧ (iI z).toNatClampNeg = z.toNat := by
  have hr : R32 z := ⟨by omega, h1⟩
  refine ⟨fun q => ?_, ?_⟩
  · rw [← iI_0] at q
    have := (iI_lt hr R32_0).mp q
    omega
  · show (iI z).toInt.toNat = z.toNat
    rw [iI_toInt hr]
section STP
variable {p : Program} {l : Launch} {e : Env} {R : Room} {s : State} {m : MethodId} {args : Array Value} {below : List Frame} {meth : Method} {c : Code} {cells slots : Nat}
variable {A : Nat → Prop} {Qf : State → Prop} {nL : Nat} {G : GT} {cc : ByteArray} {own : String} {cp : Nat → Option CE} {mT : Nat → Option (Nat × Bool × MSpec)} {ro : RO} {rk : Nat} {RT : Option AV → HP → Prop}
/-- how the body ends -/
def RTK (p : Program) (l : Launch) (e : Env) (R : Room) (s : State) (m : MethodId) (args : Array Value) (below : List Frame) (meth : Method) (c : Code) (cells slots : Nat) (A : Nat → Prop) (Qf : State → Prop) (G : GT) (cc : ByteArray) (rk : Nat) (RT : Option AV → HP → Prop) : Prop :=
  ∀ (pc : Nat) (σ : HP) (H : Heap) (locs : List Loc) (lsA : Array Slot), va_P G.2.2 vwCl (gw G σ) H → va_S A s.heap H locs →
    (∀ v : Int, decode cc pc = .ok (.ireturn, 1) → (rk = 1 ∨ (rk = 2 ∧ (v = 0 ∨ v = 1))) → RT (some (.inl v)) σ → W p l e R s m args below meth c H locs cells slots Qf (F0 m pc lsA [.int (iI v)])) ∧
    (∀ v : Int, decode cc pc = .ok (.lreturn, 1) → rk = 3 → RT (some (.inr (.inr v))) σ → W p l e R s m args below meth c H locs cells slots Qf (F0 m pc lsA [.long (iL v)])) ∧
    (∀ v : Nat, decode cc pc = .ok (.areturn, 1) → rk = 4 → RT (some (.inr (.inl v))) σ → W p l e R s m args below meth c H locs cells slots Qf (F0 m pc lsA [.ref (G.1 v)])) ∧
    (decode cc pc = .ok (.return_, 1) → rk = 0 → RT none σ → W p l e R s m args below meth c H locs cells slots Qf (F0 m pc lsA []))
set_option maxHeartbeats 4000000 in
theorem stp_sound (C : CX p l R s m args c cells slots A cc own nL G cp mT ro) (hret : RTK p l e R s m args below meth c cells slots A Qf G cc rk RT) {k : KT} (hk : ∀ pc ls st σ, k pc ls st σ → AW p l e R s m args below meth c cells slots A Qf nL G pc ls st σ) {i : Instr} {len pc : Nat} {ls : LSt} {st : List AV} {σ : HP} (hd : decode cc pc = .ok (i, len)) (hl : ilen i = 0 ∨ ilen i = len) (h : stp cp mT ro rk RT i len pc ls st σ k) : AW p l e R s m args below meth c cells slots A Qf nL G pc ls st σ := by
  obtain ⟨hx, hb, hml, hown, hts, ⟨hR1, hR2, hR3, hR4⟩, hK, hA, hro, hcp, hmT⟩ := C
  intro H locs lsA hP hS hL
  have hD : ∀ τ : HP, va_D A (gw G τ) := fun τ => gw_D hK.2.1 hA
  have hAo : ∀ q, Aof G q → A q := fun q ⟨k, h1, h2⟩ => by rw [h2]; exact hA k h1
  have tg : ∀ (o : Int) (k : Nat → Prop), tgo pc o k → ∃ t : Nat, (pc : Int) + o = (t : Int) ∧ k t := fun o k h => ⟨((pc : Int) + o).toNat, (Int.toNat_of_nonneg h.1).symm, h.2⟩
  cases i <;> simp only [stp] at h
  case iconst n =>
    obtain rfl : len = 1 := by rcases hl with q | q <;> simp [ilen] at q; exact q.symm
    exact lv_iconst hx hb hd rfl (hk _ _ _ _ h H locs lsA hP hS hL)
  case bipush n =>
    obtain rfl : len = 2 := by rcases hl with q | q <;> simp [ilen] at q; exact q.symm
    exact lv_bipush hx hb hd (iI_bi h.1) (hk _ _ _ _ h.2 H locs lsA hP hS hL)
  case sipush n =>
    obtain rfl : len = 3 := by rcases hl with q | q <;> simp [ilen] at q; exact q.symm
    exact lv_sipush hx hb hd (iI_si h.1) (hk _ _ _ _ h.2 H locs lsA hP hS hL)
  case lconst n =>
    obtain rfl : len = 1 := by rcases hl with q | q <;> simp [ilen] at q; exact q.symm
    exact lv_lconst hx hb hd (v := iL (n.val : Int)) (by unfold iL; exact (Int64.ofInt_eq_ofNat).symm) (hk _ _ _ _ h H locs lsA hP hS hL)
  case ldc j =>
    obtain rfl : len = 2 := by rcases hl with q | q <;> simp [ilen] at q; exact q.symm
    split at h
    · rename_i z x hc
      exact lv_ldc hx hb hown (hts _ (hcp _ _ hc)) hd (hk _ _ _ _ h H locs lsA hP hS hL)
    · exact h.elim
  case ldc_w j =>
    obtain rfl : len = 3 := by rcases hl with q | q <;> simp [ilen] at q; exact q.symm
    split at h
    · rename_i z x hc
      exact lv_ldcw hx hb hown (hts _ (hcp _ _ hc)) hd (hk _ _ _ _ h H locs lsA hP hS hL)
    · exact h.elim
  case ldc2_w j =>
    obtain rfl : len = 3 := by rcases hl with q | q <;> simp [ilen] at q; exact q.symm
    split at h
    · rename_i z x hc
      exact lv_ldc2 hx hb hown (hts _ (hcp _ _ hc)) hd (hk _ _ _ _ h H locs lsA hP hS hL)
    · exact h.elim
  case iload_n j =>
    obtain rfl : len = 1 := by rcases hl with q | q <;> simp [ilen] at q; exact q.symm
    obtain ⟨z, h1, h2⟩ := ldI_inv h
    exact lv_iload_n hx hb hd rfl (hL.at h1) (hk _ _ _ _ h2 H locs lsA hP hS hL)
  case iload j =>
    obtain rfl : len = 2 := by rcases hl with q | q <;> simp [ilen] at q; exact q.symm
    obtain ⟨z, h1, h2⟩ := ldI_inv h
    exact lv_iload hx hb hd (hL.at h1) (hk _ _ _ _ h2 H locs lsA hP hS hL)
  case aload_n j =>
    obtain rfl : len = 1 := by rcases hl with q | q <;> simp [ilen] at q; exact q.symm
    obtain ⟨z, h1, h2⟩ := ldA_inv h
    exact lv_aload_n hx hb hd rfl (hL.at h1) (hk _ _ _ _ h2 H locs lsA hP hS hL)
  case aload j =>
    obtain rfl : len = 2 := by rcases hl with q | q <;> simp [ilen] at q; exact q.symm
    obtain ⟨z, h1, h2⟩ := ldA_inv h
    exact lv_aload hx hb hd (hL.at h1) (hk _ _ _ _ h2 H locs lsA hP hS hL)
  case lload_n j =>
    obtain rfl : len = 1 := by rcases hl with q | q <;> simp [ilen] at q; exact q.symm
    obtain ⟨z, h1, h2⟩ := ldL_inv h
    exact lv_lload_n hx hb hd rfl (hL.at h1) (hk _ _ _ _ h2 H locs lsA hP hS hL)
  case lload j =>
    obtain rfl : len = 2 := by rcases hl with q | q <;> simp [ilen] at q; exact q.symm
    obtain ⟨z, h1, h2⟩ := ldL_inv h
    exact lv_lload hx hb hd (hL.at h1) (hk _ _ _ _ h2 H locs lsA hP hS hL)
  case istore_n j =>
    obtain rfl : len = 1 := by rcases hl with q | q <;> simp [ilen] at q; exact q.symm
    obtain ⟨z, r, rfl, h1, h2⟩ := stI_inv h
    exact lv_istore_n hx hb hd rfl hL.2 (by rw [← hL.1]; exact h1) rfl (fun lsB hB => hk _ _ _ _ h2 H locs lsB hP hS (hL.put1 (v := .inl z) hB))
  case istore j =>
    obtain rfl : len = 2 := by rcases hl with q | q <;> simp [ilen] at q; exact q.symm
    obtain ⟨z, r, rfl, h1, h2⟩ := stI_inv h
    exact lv_istore hx hb hd hL.2 (by rw [← hL.1]; exact h1) rfl (fun lsB hB => hk _ _ _ _ h2 H locs lsB hP hS (hL.put1 (v := .inl z) hB))
  case astore_n j =>
    obtain rfl : len = 1 := by rcases hl with q | q <;> simp [ilen] at q; exact q.symm
    obtain ⟨z, r, rfl, h1, h2⟩ := stA_inv h
    exact lv_astore_n hx hb hd rfl hL.2 (by rw [← hL.1]; exact h1) rfl (fun lsB hB => hk _ _ _ _ h2 H locs lsB hP hS (hL.put1 (v := .inr (.inl z)) hB))
  case astore j =>
    obtain rfl : len = 2 := by rcases hl with q | q <;> simp [ilen] at q; exact q.symm
    obtain ⟨z, r, rfl, h1, h2⟩ := stA_inv h
    exact lv_astore hx hb hd hL.2 (by rw [← hL.1]; exact h1) rfl (fun lsB hB => hk _ _ _ _ h2 H locs lsB hP hS (hL.put1 (v := .inr (.inl z)) hB))
  case lstore_n j =>
    obtain rfl : len = 1 := by rcases hl with q | q <;> simp [ilen] at q; exact q.symm
    obtain ⟨z, r, rfl, h1, h2⟩ := stL_inv h
    exact lv_lstore_n hx hb hd rfl hL.2 (by rw [← hL.1]; exact h1) rfl (fun lsB hB => hk _ _ _ _ h2 H locs lsB hP hS (hL.put2 (v := .inr (.inr z)) hB))
  case lstore j =>
    obtain rfl : len = 2 := by rcases hl with q | q <;> simp [ilen] at q; exact q.symm
    obtain ⟨z, r, rfl, h1, h2⟩ := stL_inv h
    exact lv_lstore hx hb hd hL.2 (by rw [← hL.1]; exact h1) rfl (fun lsB hB => hk _ _ _ _ h2 H locs lsB hP hS (hL.put2 (v := .inr (.inr z)) hB))
  case iinc j n =>
    obtain rfl : len = 3 := by rcases hl with q | q <;> simp [ilen] at q; exact q.symm
    obtain ⟨z, h1, h2⟩ := ldI_inv h
    obtain ⟨h3, h4⟩ := h2
    have hm := lvp_mem (ad := G.1) ls 0 j _ h1
    rw [Nat.zero_add] at hm
    obtain ⟨q, hq⟩ := List.getElem?_of_mem hm
    exact lv_iinc hx hb hd hL.2 hq (v := iI (z + n)) (by rw [iI_add]; rfl) (by rw [← hL.1]; exact h3) rfl (fun lsB hB => hk _ _ _ _ h4 H locs lsB hP hS (hL.put1 (v := .inl (z + n)) hB))
  case iadd =>
    obtain rfl : len = 1 := by rcases hl with q | q <;> simp [ilen] at q; exact q.symm
    obtain ⟨x, y, r, rfl, h1⟩ := bin_inv h
    have := hk _ _ _ _ h1 H locs lsA hP hS hL
    simp only [List.map_cons, cv, iI_add] at this
    exact lv_iadd hx hb hd this
  case isub =>
    obtain rfl : len = 1 := by rcases hl with q | q <;> simp [ilen] at q; exact q.symm
    obtain ⟨x, y, r, rfl, h1⟩ := bin_inv h
    have := hk _ _ _ _ h1 H locs lsA hP hS hL
    simp only [List.map_cons, cv, iI_sub] at this
    exact lv_isub hx hb hd this
  case imul =>
    obtain rfl : len = 1 := by rcases hl with q | q <;> simp [ilen] at q; exact q.symm
    obtain ⟨x, y, r, rfl, h1⟩ := bin_inv h
    have := hk _ _ _ _ h1 H locs lsA hP hS hL
    simp only [List.map_cons, cv, iI_mul] at this
    exact lv_imul hx hb hd this
  case ishl =>
    obtain rfl : len = 1 := by rcases hl with q | q <;> simp [ilen] at q; exact q.symm
    obtain ⟨x, y, r, rfl, h1⟩ := bin_inv h
    have := hk _ _ _ _ h1 H locs lsA hP hS hL
    simp only [List.map_cons, cv, zshl, iI_of] at this
    exact lv_ishl hx hb hd this
  case ishr =>
    obtain rfl : len = 1 := by rcases hl with q | q <;> simp [ilen] at q; exact q.symm
    obtain ⟨x, y, r, rfl, h1⟩ := bin_inv h
    have := hk _ _ _ _ h1 H locs lsA hP hS hL
    simp only [List.map_cons, cv, zshr, iI_of] at this
    exact lv_ishr hx hb hd this
  case iand =>
    obtain rfl : len = 1 := by rcases hl with q | q <;> simp [ilen] at q; exact q.symm
    obtain ⟨x, y, r, rfl, h1⟩ := bin_inv h
    have := hk _ _ _ _ h1 H locs lsA hP hS hL
    simp only [List.map_cons, cv, zand, iI_of] at this
    exact lv_iand hx hb hd this
  case ior =>
    obtain rfl : len = 1 := by rcases hl with q | q <;> simp [ilen] at q; exact q.symm
    obtain ⟨x, y, r, rfl, h1⟩ := bin_inv h
    have := hk _ _ _ _ h1 H locs lsA hP hS hL
    simp only [List.map_cons, cv, zor, iI_of] at this
    exact lv_ior hx hb hd this
  case ixor =>
    obtain rfl : len = 1 := by rcases hl with q | q <;> simp [ilen] at q; exact q.symm
    obtain ⟨x, y, r, rfl, h1⟩ := bin_inv h
    have := hk _ _ _ _ h1 H locs lsA hP hS hL
    simp only [List.map_cons, cv, zxor, iI_of] at this
    exact lv_ixor hx hb hd this
  case idiv =>
    obtain rfl : len = 1 := by rcases hl with q | q <;> simp [ilen] at q; exact q.symm
    obtain ⟨x, y, r, rfl, r1, r2, n0, h1⟩ := binD_inv h
    have := hk _ _ _ _ h1 H locs lsA hP hS hL
    simp only [List.map_cons, cv] at this
    rw [← iI_div r1 r2] at this
    exact lv_idiv hx hb hd (iI_ne0 r2 n0) this
  case irem =>
    obtain rfl : len = 1 := by rcases hl with q | q <;> simp [ilen] at q; exact q.symm
    obtain ⟨x, y, r, rfl, r1, r2, n0, h1⟩ := binD_inv h
    have := hk _ _ _ _ h1 H locs lsA hP hS hL
    simp only [List.map_cons, cv] at this
    rw [← iI_rem r1 r2] at this
    exact lv_irem hx hb hd (iI_ne0 r2 n0) this
  case ineg =>
    obtain rfl : len = 1 := by rcases hl with q | q <;> simp [ilen] at q; exact q.symm
    obtain ⟨x, r, rfl, h1⟩ := una_inv h
    have := hk _ _ _ _ h1 H locs lsA hP hS hL
    simp only [List.map_cons, cv, iI_neg] at this
    exact lv_ineg hx hb hd this
  case i2b =>
    obtain rfl : len = 1 := by rcases hl with q | q <;> simp [ilen] at q; exact q.symm
    obtain ⟨x, r, rfl, h1⟩ := una_inv h
    have := hk _ _ _ _ h1 H locs lsA hP hS hL
    simp only [List.map_cons, cv, zi2b, iI_of] at this
    exact lv_i2b hx hb hd rfl this
  case i2s =>
    obtain rfl : len = 1 := by rcases hl with q | q <;> simp [ilen] at q; exact q.symm
    obtain ⟨x, r, rfl, h1⟩ := una_inv h
    have := hk _ _ _ _ h1 H locs lsA hP hS hL
    simp only [List.map_cons, cv, zi2s, iI_of] at this
    exact lv_i2s hx hb hd rfl this
  case i2l =>
    obtain rfl : len = 1 := by rcases hl with q | q <;> simp [ilen] at q; exact q.symm
    split at h
    · exact lv_i2l hx hb hd (iI_long h.1) (hk _ _ _ _ h.2 H locs lsA hP hS hL)
    · exact h.elim
  case l2i =>
    obtain rfl : len = 1 := by rcases hl with q | q <;> simp [ilen] at q; exact q.symm
    split at h
    · exact lv_l2i hx hb hd (iL_int _) (hk _ _ _ _ h H locs lsA hP hS hL)
    · exact h.elim
  case ladd =>
    obtain rfl : len = 1 := by rcases hl with q | q <;> simp [ilen] at q; exact q.symm
    obtain ⟨x, y, r, rfl, h1⟩ := binL_inv h
    have := hk _ _ _ _ h1 H locs lsA hP hS hL
    simp only [List.map_cons, cv, iL_add] at this
    exact lv_ladd hx hb hd this
  case lmul =>
    obtain rfl : len = 1 := by rcases hl with q | q <;> simp [ilen] at q; exact q.symm
    obtain ⟨x, y, r, rfl, h1⟩ := binL_inv h
    have := hk _ _ _ _ h1 H locs lsA hP hS hL
    simp only [List.map_cons, cv, iL_mul] at this
    exact lv_lmul hx hb hd this
  case ldiv =>
    obtain rfl : len = 1 := by rcases hl with q | q <;> simp [ilen] at q; exact q.symm
    obtain ⟨x, y, r, rfl, r1, r2, n0, h1⟩ := binDL_inv h
    have := hk _ _ _ _ h1 H locs lsA hP hS hL
    simp only [List.map_cons, cv] at this
    rw [← iL_div r1 r2] at this
    exact lv_ldiv hx hb hd (iL_ne0 r2 n0) this
  case lrem =>
    obtain rfl : len = 1 := by rcases hl with q | q <;> simp [ilen] at q; exact q.symm
    obtain ⟨x, y, r, rfl, r1, r2, n0, h1⟩ := binDL_inv h
    have := hk _ _ _ _ h1 H locs lsA hP hS hL
    simp only [List.map_cons, cv] at this
    rw [← iL_rem r1 r2] at this
    exact lv_lrem hx hb hd (iL_ne0 r2 n0) this
  case lcmp =>
    obtain rfl : len = 1 := by rcases hl with q | q <;> simp [ilen] at q; exact q.symm
    split at h
    · rename_i y x r
      obtain ⟨r1, r2, h1⟩ := h
      have := hk _ _ _ _ h1 H locs lsA hP hS hL
      have e1 : iI (lcmpZ x y) = lg_cmp (iL x) (iL y) := by
        unfold lcmpZ lg_cmp
        by_cases q1 : y < x
        · rw [if_pos q1, if_pos (show iL x > iL y from (iL_lt r2 r1).mpr q1)]; decide +kernel
        · rw [if_neg q1, if_neg (show ¬ iL x > iL y from fun z => q1 ((iL_lt r2 r1).mp z))]
          by_cases q2 : x = y
          · rw [if_pos q2, if_pos ((iL_eq r1 r2).mpr q2)]; decide +kernel
          · rw [if_neg q2, if_neg (fun z => q2 ((iL_eq r1 r2).mp z))]; decide +kernel
      simp only [List.map_cons, cv, e1] at this
      exact W.lcmp hx hb hd this
    · exact h.elim
  case dup =>
    obtain rfl : len = 1 := by rcases hl with q | q <;> simp [ilen] at q; exact q.symm
    split at h
    · exact lv_dup hx hb hd rfl (hk _ _ _ _ h H locs lsA hP hS hL)
    · exact lv_dup hx hb hd rfl (hk _ _ _ _ h H locs lsA hP hS hL)
    · exact h.elim
  case pop =>
    obtain rfl : len = 1 := by rcases hl with q | q <;> simp [ilen] at q; exact q.symm
    split at h
    · exact lv_pop hx hb hd rfl (hk _ _ _ _ h H locs lsA hP hS hL)
    · exact lv_pop hx hb hd rfl (hk _ _ _ _ h H locs lsA hP hS hL)
    · exact h.elim
  case dup2 =>
    obtain rfl : len = 1 := by rcases hl with q | q <;> simp [ilen] at q; exact q.symm
    split at h
    · exact lv_dup2_11 hx hb hd rfl rfl (hk _ _ _ _ h H locs lsA hP hS hL)
    · exact h.elim
  case goto o =>
    obtain rfl : len = 3 := by rcases hl with q | q <;> simp [ilen] at q; exact q.symm
    obtain ⟨t, e1, h1⟩ := tg _ _ h
    exact lv_goto hx hb hd e1 (hk _ _ _ _ h1 H locs lsA hP hS hL)
  case ifCond cd o =>
    obtain rfl : len = 3 := by rcases hl with q | q <;> simp [ilen] at q; exact q.symm
    split at h
    · rename_i x r
      obtain ⟨r1, h0, h1, h2⟩ := h
      have ht : (pc : Int) + o = ((((pc : Int) + o).toNat : Nat) : Int) := (Int.toNat_of_nonneg h0).symm
      have kt : cndZ cd x 0 → W p l e R s m args below meth c H locs cells slots Qf (F0 m ((pc : Int) + o).toNat lsA (r.map (cv G.1))) := fun q => hk _ _ _ _ (h1 q) H locs lsA hP hS hL
      have kf : ¬ cndZ cd x 0 → W p l e R s m args below meth c H locs cells slots Qf (F0 m (pc + 3) lsA (r.map (cv G.1))) := fun q => hk _ _ _ _ (h2 q) H locs lsA hP hS hL
      have eq0 : iI x = 0 ↔ x = 0 := by rw [← iI_0]; exact iI_eq r1 R32_0
      have lt0 : iI x < 0 ↔ x < 0 := by rw [← iI_0]; exact iI_lt r1 R32_0
      have le0 : iI x ≤ 0 ↔ x ≤ 0 := by rw [← iI_0]; exact iI_le r1 R32_0
      have gt0 : 0 < iI x ↔ 0 < x := by rw [← iI_0]; exact iI_lt R32_0 r1
      have ge0 : 0 ≤ iI x ↔ 0 ≤ x := by rw [← iI_0]; exact iI_le R32_0 r1
      cases cd
      · exact lv_if_eq hx hb hd ht (fun q => kt (eq0.mp q)) (fun q => kf (fun z => q (eq0.mpr z)))
      · exact lv_if_ne hx hb hd ht (fun q => kt (fun z => q (eq0.mpr z))) (fun q => kf (fun z => z (eq0.mp q)))
      · exact lv_if_lt hx hb hd ht (fun q => kt (lt0.mp q)) (fun q => kf (fun z => q (lt0.mpr z)))
      · exact lv_if_ge hx hb hd ht (fun q => kt (ge0.mp q)) (fun q => kf (fun z => q (ge0.mpr z)))
      · exact lv_if_gt hx hb hd ht (fun q => kt (gt0.mp q)) (fun q => kf (fun z => q (gt0.mpr z)))
      · exact lv_if_le hx hb hd ht (fun q => kt (le0.mp q)) (fun q => kf (fun z => q (le0.mpr z)))
    · exact h.elim
  case if_icmp cd o =>
    obtain rfl : len = 3 := by rcases hl with q | q <;> simp [ilen] at q; exact q.symm
    split at h
    · rename_i y x r
      obtain ⟨r1, r2, h0, h1, h2⟩ := h
      have ht : (pc : Int) + o = ((((pc : Int) + o).toNat : Nat) : Int) := (Int.toNat_of_nonneg h0).symm
      have kt : cndZ cd x y → W p l e R s m args below meth c H locs cells slots Qf (F0 m ((pc : Int) + o).toNat lsA (r.map (cv G.1))) := fun q => hk _ _ _ _ (h1 q) H locs lsA hP hS hL
      have kf : ¬ cndZ cd x y → W p l e R s m args below meth c H locs cells slots Qf (F0 m (pc + 3) lsA (r.map (cv G.1))) := fun q => hk _ _ _ _ (h2 q) H locs lsA hP hS hL
      have eq0 := iI_eq r1 r2
      have lt0 := iI_lt r1 r2
      have le0 := iI_le r1 r2
      have gt0 := iI_lt r2 r1
      have ge0 := iI_le r2 r1
      cases cd
      · exact lv_icmp_eq hx hb hd ht (fun q => kt (eq0.mp q)) (fun q => kf (fun z => q (eq0.mpr z)))
      · exact lv_icmp_ne hx hb hd ht (fun q => kt (fun z => q (eq0.mpr z))) (fun q => kf (fun z => z (eq0.mp q)))
      · exact lv_icmp_lt hx hb hd ht (fun q => kt (lt0.mp q)) (fun q => kf (fun z => q (lt0.mpr z)))
      · exact lv_icmp_ge hx hb hd ht (fun q => kt (ge0.mp q)) (fun q => kf (fun z => q (ge0.mpr z)))
      · exact lv_icmp_gt hx hb hd ht (fun q => kt (gt0.mp q)) (fun q => kf (fun z => q (gt0.mpr z)))
      · exact lv_icmp_le hx hb hd ht (fun q => kt (le0.mp q)) (fun q => kf (fun z => q (le0.mpr z)))
    · exact h.elim
  case tableswitch d lo hi os =>
    split at h
    · rename_i x r
      obtain ⟨r1, hsz, h1, h2⟩ := h
      have ex : (iI x).toInt = x := iI_toInt r1
      by_cases q : x < lo ∨ hi < x
      · obtain ⟨t, e1, h3⟩ := tg _ _ (h1 q)
        exact lv_tableOut hx hb hd (by rw [ex]; exact q) e1 (hk _ _ _ _ h3 H locs lsA hP hS hL)
      · have g1 : lo ≤ x := by omega
        have g2 : x ≤ hi := by omega
        have hlt : (x - lo).toNat < os.toList.length := by
          rw [Array.length_toList]
          omega
        obtain ⟨o, ho⟩ : ∃ o, os.toList[(x - lo).toNat]? = some o := ⟨_, List.getElem?_eq_getElem hlt⟩
        obtain ⟨t, e1, h3⟩ := tg _ _ (tsw_in os.toList lo (x - lo).toNat h2 (by omega) o ho)
        exact lv_tableIn hx hb hd (by rw [ex]; omega) (by rw [ex]; omega) (by rw [ex, ← Array.getElem?_toList]; exact ho) e1 (hk _ _ _ _ h3 H locs lsA hP hS hL)
    · exact h.elim
  case lookupswitch d ps =>
    split at h
    · rename_i x r
      obtain ⟨r1, hsz, h2⟩ := h
      have ex : (iI x).toInt = x := iI_toInt r1
      obtain ⟨t, e1, h3⟩ := tg _ _ (lsw_in ps.toList h2)
      exact lv_lookup hx hb hd hsz (by rw [ex]) e1 (hk _ _ _ _ h3 H locs lsA hP hS hL)
    · exact h.elim
  case getfield j =>
    obtain rfl : len = 3 := by rcases hl with q | q <;> simp [ilen] at q; exact q.symm
    obtain ⟨ci, f, pl, r, v, he, rfl, hp, hg, h1⟩ := gfX_inv h
    obtain ⟨z, b, hz, rfl⟩ := cpF_inv he
    obtain ⟨s1, s2, o, s3, s4⟩ := gfV_inv hg
    obtain ⟨C, T, N, hc, hkN, hin, hw⟩ : ∃ (C : String) (T : u_T) (N : Nat), vwCl[z.toNat]? = some (C, T, N) ∧ f < N ∧ (∀ w ∈ u_ws C T N, w ∈ gtb) ∧ Cond.fieldLink own j (T f).1 (T f).2.1 (T f).2.2.1 ∈ gtb := by
      rcases hz with hz | hz
      · exact hcp _ _ hz
      · obtain ⟨C, T, N, ty, a1, a2, a3, a4, -⟩ := hcp _ _ hz
        exact ⟨C, T, N, a1, a2, a3, a4⟩
    have he2 : (gw G σ)[pl]? = some (G.1 pl, .inr (z.toNat, ceV G.1 (σ pl) 0 (SH pl).2.2)) := by
      rw [gw_get hp, ce_obj s1, s2]
    have hv : (ceV G.1 (σ pl) 0 (SH pl).2.2)[f]? = some (cv G.1 v) := by
      rw [ceV_get, s3, s4]
      cases o <;> simp [cv]
    exact va_get hx hb hts hin hown hK.1 hP pl he2 hc f hkN (hts _ hw) (fun _ h9 => h9) hv hd (hk _ _ _ _ h1 H locs lsA hP hS hL)
  case putfield j =>
    obtain rfl : len = 3 := by rcases hl with q | q <;> simp [ilen] at q; exact q.symm
    obtain ⟨ci, f, b, v, pl, r, he, rfl, hp, hg, hb01, h1⟩ := pfX_inv h
    obtain ⟨z, hz, rfl⟩ := cpP_inv he
    obtain ⟨s1, s2, s3⟩ := pfV_inv hg
    obtain ⟨C, T, N, ty, hc, hkN, hin, hw, hty, hnm, hfin, hpd⟩ := hcp _ _ hz
    have he2 : (gw G σ)[pl]? = some (G.1 pl, .inr (z.toNat, ceV G.1 (σ pl) 0 (SH pl).2.2)) := by
      rw [gw_get hp, ce_obj s1, s2]
    have hset' : (gw G σ).set pl (G.1 pl, .inr (z.toNat, (ceV G.1 (σ pl) 0 (SH pl).2.2).set f (.int (iI v)))) = gw G (hset σ pl f v) :=
      gw_set hp (fun q hq => hset_ne hq) (by rw [hset_obj s1 s3, s2])
    have hnf : narrow (if b = true then FieldType.boolean else FieldType.int) (.int (iI v)) = .int (iI v) ∧ fits (if b = true then FieldType.boolean else FieldType.int) (.int (iI v)) = true := by
      cases b
      · exact ⟨rfl, rfl⟩
      · exact (iI_01 (hb01 rfl)).2
    refine va_put (ws := gw G σ) (v := .int (iI v)) hx hb hts hin ty hty hnm hown hK.1 hP (hD σ) hS pl he2 hc f hkN (hts _ hw) (fun _ h9 => h9) hfin hpd hnf.1 hnf.2 (by rw [ceV_len]; exact rnth_lt _ _ _ s3) hd (fun H1 locs1 hP1 hD1 hS1 => ?_)
    rw [hset'] at hP1
    exact hk _ _ _ _ h1 H1 locs1 lsA hP1 hS1 hL
  case getstatic j =>
    obtain rfl : len = 3 := by rcases hl with q | q <;> simp [ilen] at q; exact q.symm
    split at h
    · rename_i x pl y hc
      have hkk := hk _ _ _ _ h H locs lsA hP hS hL
      obtain ⟨z1, z2, z3⟩ := hK.2.2.1
      rcases hcp _ _ hc with ⟨rfl, hw⟩ | ⟨rfl, hw⟩ | ⟨rfl, hw⟩
      · exact va_gets hx hb z1 hS hown (hts _ hw) (fun _ h9 => h9) hd hkk
      · exact va_gets hx hb z2 hS hown (hts _ hw) (fun _ h9 => h9) hd hkk
      · exact va_gets hx hb z3 hS hown (hts _ hw) (fun _ h9 => h9) hd hkk
    · exact h.elim
  case iaload =>
    obtain rfl : len = 1 := by rcases hl with q | q <;> simp [ilen] at q; exact q.symm
    split at h
    · rename_i i pl r
      rcases acV_inv h with ⟨s1, b1, b2, h1⟩ | ⟨s1, n, f, hr, b1, b2, h1⟩
      · have hp : pl < 76 := SH_lt (by rw [s1]; decide)
        obtain ⟨i1, i2⟩ := iI_in b1 b2 (SH_small pl)
        have hkk := hk _ _ _ _ h1 H locs lsA hP hS hL
        rw [← i2] at hkk
        exact va_iald (f := fun j => iI (σ pl j)) hx hb hK.1 hP pl 0 (by rw [gw_get hp, ce_int s1]) rfl i1 hd hkk
      · obtain ⟨g1, g4⟩ := hK.2.2.2.1 _ _ _ hr
        obtain ⟨i1, i2⟩ := iI_in b1 b2 g4
        have hkk := hk _ _ _ _ h1 H locs lsA hP hS hL
        rw [← i2] at hkk
        exact va_ti hx hb g1 hS i1 rfl hd hkk
    · exact h.elim
  case laload =>
    obtain rfl : len = 1 := by rcases hl with q | q <;> simp [ilen] at q; exact q.symm
    split at h
    · rename_i i pl r
      obtain ⟨hp, s1, b1, b2, h1⟩ := h
      obtain ⟨i1, i2⟩ := iI_in b1 b2 (SH_small pl)
      have hkk := hk _ _ _ _ h1 H locs lsA hP hS hL
      rw [← i2] at hkk
      exact va_lald (f := fun j => iL (σ pl j)) hx hb hK.1 hP pl 1 (by rw [gw_get hp, ce_long s1]) rfl i1 hd hkk
    · exact h.elim
  case baload =>
    obtain rfl : len = 1 := by rcases hl with q | q <;> simp [ilen] at q; exact q.symm
    split at h
    · rename_i i pl r
      obtain ⟨hp, s1, b1, b2, h1⟩ := h
      obtain ⟨i1, i2⟩ := iI_in b1 b2 (SH_small pl)
      have hkk := hk _ _ _ _ h1 H locs lsA hP hS hL
      rw [← i2] at hkk
      exact va_zald (f := fun j => iI (σ pl j)) hx hb hK.1 hP pl 2 (by rw [gw_get hp, ce_bool s1]) rfl i1 hd hkk
    · exact h.elim
  case aaload =>
    obtain rfl : len = 1 := by rcases hl with q | q <;> simp [ilen] at q; exact q.symm
    split at h
    · rename_i i pl r
      obtain ⟨hp, s1, b1, b2, h1⟩ := h
      obtain ⟨i1, i2⟩ := iI_in b1 b2 (SH_small pl)
      split at h1
      · rename_i q hq
        have hkk := hk _ _ _ _ h1 H locs lsA hP hS hL
        refine va_aldq (f := fun j => ((SH pl).2.2.getD j none).map G.1) hx hb hK.1 hP pl 3 (by rw [gw_get hp, ce_refs s1]) rfl i1 hd ?_
        rw [i2, rnth_getD _ _ _ hq]
        exact hkk
      · exact h1.elim
    · exact h.elim
  case iastore =>
    obtain rfl : len = 1 := by rcases hl with q | q <;> simp [ilen] at q; exact q.symm
    split at h
    · rename_i v i pl r
      obtain ⟨hp, s1, b1, b2, h1⟩ := h
      obtain ⟨i1, i2⟩ := iI_in b1 b2 (SH_small pl)
      refine va_iast (f := fun j => iI (σ pl j)) hx hb hK.1 hP (hD σ) hS pl 0 (by rw [gw_get hp, ce_int s1]) rfl i1 hd (fun H1 locs1 hP1 hD1 hS1 => ?_)
      rw [i2, gw_set hp (fun q hq => hset_ne hq) (hset_arr (Or.inl s1) _ _ (ce_int s1))] at hP1
      exact hk _ _ _ _ h1 H1 locs1 lsA hP1 hS1 hL
    · exact h.elim
  case lastore =>
    obtain rfl : len = 1 := by rcases hl with q | q <;> simp [ilen] at q; exact q.symm
    split at h
    · rename_i v i pl r
      obtain ⟨hp, s1, b1, b2, h1⟩ := h
      obtain ⟨i1, i2⟩ := iI_in b1 b2 (SH_small pl)
      refine va_last (f := fun j => iL (σ pl j)) hx hb hK.1 hP (hD σ) hS pl 1 (by rw [gw_get hp, ce_long s1]) rfl i1 hd (fun H1 locs1 hP1 hD1 hS1 => ?_)
      rw [i2, gw_set hp (fun q hq => hset_ne hq) (hset_long s1)] at hP1
      exact hk _ _ _ _ h1 H1 locs1 lsA hP1 hS1 hL
    · exact h.elim
  case bastore =>
    obtain rfl : len = 1 := by rcases hl with q | q <;> simp [ilen] at q; exact q.symm
    split at h
    · rename_i v i pl r
      obtain ⟨hp, h01, s1, b1, b2, h1⟩ := h
      obtain ⟨i1, i2⟩ := iI_in b1 b2 (SH_small pl)
      refine va_zast (f := fun j => iI (σ pl j)) hx hb hK.1 hP (hD σ) hS pl 2 (by rw [gw_get hp, ce_bool s1]) rfl i1 hd (fun H1 locs1 hP1 hD1 hS1 => ?_)
      rw [i2, (iI_01 h01).1, gw_set hp (fun q hq => hset_ne hq) (hset_arr (Or.inr s1) _ _ (ce_bool s1))] at hP1
      exact hk _ _ _ _ h1 H1 locs1 lsA hP1 hS1 hL
    · exact h.elim
  case arraylength =>
    obtain rfl : len = 1 := by rcases hl with q | q <;> simp [ilen] at q; exact q.symm
    split at h
    · rename_i pl r
      split at h
      · rename_i n f hr
        obtain ⟨g1, g4⟩ := hK.2.2.2.1 _ _ _ hr
        have hkk := hk _ _ _ _ h H locs lsA hP hS hL
        have e1 : Int32.ofNat n = iI (n : Int) := by unfold iI; exact (Int32.ofInt_eq_ofNat).symm
        exact va_tlen hx hb g1 hS e1 hd hkk
      · exact h.elim
    · exact h.elim
  case ireturn =>
    obtain rfl : len = 1 := by rcases hl with q | q <;> simp [ilen] at q; exact q.symm
    split at h
    · exact (hret pc σ H locs lsA hP hS).1 _ hd h.1 h.2
    · exact h.elim
  case lreturn =>
    obtain rfl : len = 1 := by rcases hl with q | q <;> simp [ilen] at q; exact q.symm
    split at h
    · exact (hret pc σ H locs lsA hP hS).2.1 _ hd h.1 h.2
    · exact h.elim
  case areturn =>
    obtain rfl : len = 1 := by rcases hl with q | q <;> simp [ilen] at q; exact q.symm
    split at h
    · exact (hret pc σ H locs lsA hP hS).2.2.1 _ hd h.1 h.2
    · exact h.elim
  case return_ =>
    obtain rfl : len = 1 := by rcases hl with q | q <;> simp [ilen] at q; exact q.symm
    split at h
    · exact (hret pc σ H locs lsA hP hS).2.2.2 hd h.1 h.2
    · exact h.elim
  case invokestatic j =>
    obtain rfl : len = 3 := by rcases hl with q | q <;> simp [ilen] at q; exact q.symm
    split at h
    · rename_i x hc
      obtain ⟨w1, w2, w3, w4⟩ := hcp _ _ hc
      obtain ⟨n, dp, b, sp, a, r, rfl, ha, hb', s1, s2, hr, n1, n2, n3, n4, n5, h1⟩ := acpy_inv h
      have z1 := SH_small a
      have z2 := SH_small b
      obtain ⟨u1, u2⟩ := iI_nn n1 (by omega)
      obtain ⟨u3, u4⟩ := iI_nn n2 (by omega)
      obtain ⟨u5, u6⟩ := iI_nn n3 (by omega)
      have hcat := cat_le G.1 r
      refine va_copyi (f := fun j => iI (σ a j)) (g := fun j => iI (σ b j)) (ty := .int) hx hb (hml.trans hL.2.1.symm) hown (hts _ w1) (hts _ w2) (hts _ w3) (hts _ w4) hK.1 hP (hD σ) hS a b 0 0 (by rw [gw_get ha, ce_int s1]) (by rw [gw_get hb', ce_int s2]) rfl rfl rfl u1 u3 u5 (by rw [u2, u6]; omega) (by rw [u4, u6]; omega) (fun _ _ => rfl) hR1 (by
        have : nativeFrameWords "java/lang/System" "arraycopy" 5 = 7 := by decide +kernel
        rw [this]
        omega) hd (fun H1 locs1 hP1 hD1 hS1 => ?_)
      rw [u2, u4, u6, gw_set hb' (fun q hq => hcpy_ne hq) (hcpy_ce s2)] at hP1
      exact hk _ _ _ _ h1 H1 locs1 lsA hP1 hS1 hL
    · obtain ⟨n, S, hm, hn, hlen, hsp⟩ := inv_inv h
      obtain ⟨n', y, bc, mL, rt, f1, f2, f3, f4, f5, g1⟩ := hmT _ _ hm
      rcases g1 with ⟨g0, -⟩ | ⟨-, g2, g3, g4, g5⟩
      · cases g0
      · have hM := g5 _ _ _ hsp G
        have hst : st.map (cv G.1) = (((st.take n).reverse).map (cv G.1)).reverse ++ (st.drop n).map (cv G.1) := by
          rw [← List.map_reverse, List.reverse_reverse, ← List.map_append, List.take_append_drop]
        have hcat := cat_le G.1 (st.drop n)
        have hpre : PreS s H (Pc0 G (st.take n).reverse σ) (((st.take n).reverse).map (cv G.1)) := ⟨Pc0.blind, fun U hU hW => ⟨rfl, by rw [hU]; exact hP, by rw [hU]; exact KNs.move hK hW hS.1 hS.2.1 hAo hro⟩⟩
        have hlen2 : (((st.take n).reverse).map (cv G.1)).length = n := by simp; omega
        have hrun : va_Run p l e R s m args below meth c H locs cells slots 0 0 (F0 m pc lsA (st.map (cv G.1))) ((st.drop n).map (cv G.1)) (Qc0 G (fun r σ' => k (pc + 3) ls (r.toList ++ st.drop n) σ') ((((st.take n).reverse).map (cv G.1)).toArray)) (Aof G) := by
          rcases g4 with g4 | ⟨rfl, g4⟩
          · exact va_runS (nL := nL) ⟨hx, hb, hml, hown, hts⟩ hM (va_cwS n hts (goodIn_gtb (fun w hw => by
              simp only [va_wsS, List.cons_append, List.nil_append, List.mem_cons] at hw
              rcases hw with rfl | rfl | rfl | rfl | hw
              · exact g4
              · exact g3
              · exact f4
              · exact f3
              · exact hw)) rfl rfl rfl ⟨f5.1, f5.2, g2⟩ ⟨f1, f2⟩) hpre rfl hlen2 hL.2.1 hst (lv_room (by omega)) hd ⟨hR3, hR4⟩
          · have hN : va_Nw (.methodLinkNest RX6 j y RX7) s := by
              rcases g4 with ⟨rfl, rfl⟩ | ⟨rfl, rfl⟩
              · exact hK.2.2.2.2.1
              · exact hK.2.2.2.2.2
            exact va_runSN (nL := nL) ⟨hx, hb, hml, hown, hts⟩ hM ⟨va_cnB n hts (goodIn_gtb (fun w hw => by
              rcases List.mem_cons.mp hw with rfl | hw
              · exact f3
              · exact hw)) rfl rfl rfl hN (hts _ f4) ⟨f5.1, f5.2, g2⟩ ⟨f1, f2⟩, hts _ g3, trivial⟩ hpre rfl hlen2 hL.2.1 hst (lv_room (by omega)) hd ⟨hR3, hR4⟩
        refine aw_run hrun hS hAo (fun r σ' H1 locs1 hq hP1 hS1 => ?_)
        have := hk _ _ _ _ hq H1 locs1 lsA hP1 hS1 hL
        rw [List.map_append, show (r.toList).map (cv G.1) = (r.map (cv G.1)).toList by cases r <;> rfl] at this
        exact this
  case invokevirtual j =>
    obtain rfl : len = 3 := by rcases hl with q | q <;> simp [ilen] at q; exact q.symm
    obtain ⟨n, S, hm, hn, hlen, hsp⟩ := inv_inv h
    obtain ⟨n', y, bc, mL, rt, f1, f2, f3, f4, f5, g1⟩ := hmT _ _ hm
    rcases g1 with ⟨-, g2, g3, g4, g5, ci, T, N, g6, g7⟩ | ⟨g0, -⟩
    · obtain ⟨⟨pl, r0, e1, hp, s1, s2⟩, hAM⟩ := g7 _ _ _ hsp
      have hM := hAM G
      rw [e1] at hM
      have htk : st.take n = r0.reverse ++ [.inr (.inl pl)] := by
        have := congrArg List.reverse e1
        rw [List.reverse_reverse] at this
        rw [this]
        simp
      have hst : st.map (cv G.1) = (r0.map (cv G.1)).reverse ++ .ref (G.1 pl) :: (st.drop n).map (cv G.1) := by
        conv => lhs; rw [← List.take_append_drop n st, htk]
        simp [cv]
      have hcat := cat_le G.1 (st.drop n)
      have hln : r0.length + 1 = n := by
        have := congrArg List.length htk
        simp at this
        omega
      have g2' : (parseMethodDescriptor y.desc).map (fun d => d.parameters.length) = some r0.length := by
        cases hy : parseMethodDescriptor y.desc with
        | none => rw [hy] at g2; simp at g2
        | some d =>
          rw [hy] at g2
          simp only [Option.map_some, Option.some.injEq] at g2 ⊢
          omega
      have he2 : (gw G σ)[pl]? = some (G.1 pl, .inr (ci, ceV G.1 (σ pl) 0 (SH pl).2.2)) := by
        rw [gw_get hp, ce_obj s1, s2]
      have hpre : PreV s H y.cls (G.1 pl) (Pc0 G (.inr (.inl pl) :: r0) σ) (r0.map (cv G.1)) := ⟨Pc0.blind, va_recv hK.1 hP g6 he2, fun U hU hW => ⟨rfl, by rw [hU]; exact hP, by rw [hU]; exact KNs.move hK hW hS.1 hS.2.1 hAo hro⟩⟩
      have hrun : va_Run p l e R s m args below meth c H locs cells slots 0 0 (F0 m pc lsA (st.map (cv G.1))) ((st.drop n).map (cv G.1)) (Qc0 G (fun r σ' => k (pc + 3) ls (r.toList ++ st.drop n) σ') ((Value.ref (G.1 pl) :: r0.map (cv G.1)).toArray)) (Aof G) :=
        va_runV (nL := nL) ⟨hx, hb, hml, hown, hts⟩ hM (cwV r0.length hts (goodIn_gtb (fun w hw => by
          simp only [wsV, List.cons_append, List.nil_append, List.mem_cons] at hw
          rcases hw with rfl | rfl | rfl | rfl | rfl | hw
          · exact g3
          · exact g4
          · exact g5
          · exact f4
          · exact f3
          · exact hw)) rfl rfl rfl ⟨rfl, f5.1, f5.2, g2'⟩ ⟨f1, f2⟩) hpre rfl (by simp) hL.2.1 hst (lv_room (by omega)) hd ⟨hR3, hR4⟩
      refine aw_run hrun hS hAo (fun r σ' H1 locs1 hq hP1 hS1 => ?_)
      have := hk _ _ _ _ hq H1 locs1 lsA hP1 hS1 hL
      rw [List.map_append, show (r.toList).map (cv G.1) = (r.map (cv G.1)).toList by cases r <;> rfl] at this
      exact this
    · cases g0
end STP
