/-! ===== constructors: the leaves, printed by program ===== -/
set_option maxHeartbeats 4000000 in
set_option maxRecDepth 100000 in
theorem c_X0_init (l : Launch) (dT : Nat → ClassId) (D : va_G) (h0 : Nat) (sz : Nat) : Met l yX0_init (Cond.code yX0_init cX0_init 1 none :: gtb) ({ frames := 1, cells := 3, slots := 48, locals := 12 }) (va_Pc [.ref h0] (fun U => U.heap.size = sz ∧ va_P D vwCl [(h0, .inr (0, [.int (iI 0), .null, .null, .null]))] U.heap ∧ va_K D vwCl (tysD dT) U ∧ va_D (fun _ => True) [(h0, .inr (0, [.int (iI 0), .null, .null, .null]))])) (va_Qv (fun _ : Unit => True) (fun _ t => ∃ (q1 q2 q3 : Nat), va_P D vwCl [(h0, .inr (0, [.int (iI 0), .ref q1, .ref q2, .ref q3])), (q1, zi dT 16), (q2, zi dT 16), (q3, zi dT 16)] t.heap ∧ va_D (va_A [(h0, .inr (0, [.int (iI 0), .null, .null, .null]))] sz) [(h0, .inr (0, [.int (iI 0), .ref q1, .ref q2, .ref q3])), (q1, zi dT 16), (q2, zi dT 16), (q3, zi dT 16)]) (va_A [(h0, .inr (0, [.int (iI 0), .null, .null, .null]))] sz)) 3 48 (va_A [(h0, .inr (0, [.int (iI 0), .null, .null, .null]))] sz) := by
  refine Met.ofW (cc := cX0_init) (maxL := 1) (ret := none) (by decide +kernel) rfl ?_
  intro p e s m args below meth c s₁ B hml hv
  obtain ⟨rfl, hsz, hP, hK, hD0⟩ := hv
  have hx := B.exec
  have hb := B.bytes
  have hr := B.returns
  have hts := atoms_spec (ws := Cond.code yX0_init cX0_init 1 none :: gtb) B.pre
  have hown : s.vm.findClass RX0 = some m.cls := findClass_of_methodNamed B.named
  have hlocks := B.notSynchronized
  have hin : meth.name = "<init>" := (name_of_methodNamed B.named B.method).1
  subst hsz
  have hD := hD0.self (sz := s.heap.size)
  generalize hAe : va_A [(h0, .inr (0, [.int (iI 0), .null, .null, .null]))] s.heap.size = A at hD ⊢
  have hA : ∀ q : Nat, s.heap.size ≤ q → A q := fun q h => by rw [← hAe]; exact Or.inr h
  have hS : va_S A s.heap s.heap [] := va_S.rf
  have hP : va_P D vwCl [(h0, .inr (0, [.int (iI 0), .null, .null, .null]))] s.heap := hP
  have hl := lv_entry ([.ref h0]) (n := 1) (Nat.le_of_ble_eq_true rfl)
  rw [lg_entry_eq]
  generalize (lg_sl ([.ref h0]) ++ List.replicate (1 - (lg_sl ([.ref h0])).length) Slot.unset).toArray = ls at hl ⊢
  have hl : lv_has ls 1 [(0, .ref h0)] := hl
  refine lv_aload_n hx hb dX0_init_0 rfl (lv_at hl 0 rfl) ?_
  refine W.objInit hx hb hown (hts (.methodLink RX0 1 objectInit) (List.mem_cons_of_mem _ (gtm 182 (by decide +kernel) (by decide +kernel)))) (hts (.instanceMethod objectInit) (List.mem_cons_of_mem _ (gtm 18 (by decide +kernel) (by decide +kernel)))) (hts (.code objectInit ⟨#[0xb1]⟩ 1 none) (List.mem_cons_of_mem _ (gtm 19 (by decide +kernel) (by decide +kernel)))) rfl (by rw [hml]; exact hl.1) rfl dX0_init_1 (Nat.le_of_ble_eq_true rfl) (Nat.le_of_ble_eq_true rfl) ?_
  refine W.eq (g2 := F0 m 4 ls []) rfl ?_
  refine lv_aload_n hx hb dX0_init_4 rfl (lv_at hl 0 rfl) ?_
  refine lv_iconst (v := iI 0) hx hb dX0_init_5 (by decide +kernel) ?_
  refine va_put (D := D) (ci := 0) (v := .int (iI 0)) (ty := .int) (C := RX0) (T := TX0) (N := 4) hx hb hts (fun w hw => List.mem_cons_of_mem _ (inGX0 w hw)) tyX0 tyX0_ok nmX0 hown hK hP hD hS 0 rfl rfl 0 (by decide) (hts (.fieldLink RX0 7 "SpelledTones$Acts" "size" "I") (List.mem_cons_of_mem _ (gtm 183 (by decide +kernel) (by decide +kernel)))) (fun _ h9 => h9) rfl (by decide +kernel) rfl rfl (Nat.le_of_ble_eq_true rfl) dX0_init_6 (fun H locs hP hD hS => ?_)
  have hP : va_P D vwCl [(h0, .inr (0, [.int (iI 0), .null, .null, .null]))] H := hP
  have hD : va_D A [(h0, .inr (0, [.int (iI 0), .null, .null, .null]))] := hD
  refine lv_aload_n hx hb dX0_init_9 rfl (lv_at hl 0 rfl) ?_
  refine lv_bipush (v := iI 16) hx hb dX0_init_10 (by decide +kernel) ?_
  refine nw_arr (cA0 := dT 0) (atype := .int) (ty := .int) (N' := 16) (a0 := (16, .inl (fun _ => iI 0))) hx hb (hts (.arrayClass .int) (List.mem_cons_of_mem _ (gtm 36 (by decide +kernel) (by decide +kernel)))) rfl hK hP hD hS hA (ha_i 16) (by decide +kernel) (by decide +kernel) (Nat.le_of_ble_eq_true rfl) (Nat.le_of_ble_eq_true rfl) (Nat.le_of_ble_eq_true rfl) dX0_init_12 0 rfl (fun _ => Iff.rfl) (fun q1 H hP hD hS => ?_)
  have hP : va_P D vwCl [(h0, .inr (0, [.int (iI 0), .null, .null, .null])), (q1, zi dT 16)] H := hP
  have hD : va_D A [(h0, .inr (0, [.int (iI 0), .null, .null, .null])), (q1, zi dT 16)] := hD
  refine va_putF (D := D) (ci := 0) (v := .ref q1) (ty := (.array .int)) (C := RX0) (T := TX0) (N := 4) hx hb hts (fun w hw => List.mem_cons_of_mem _ (inGX0 w hw)) tyX0 tyX0_ok nmX0 hown hK hP hD hS 0 rfl rfl 1 (by decide) (hts (.fieldLink RX0 13 "SpelledTones$Acts" "sorts" "[I") (List.mem_cons_of_mem _ (gtm 185 (by decide +kernel) (by decide +kernel)))) (fun _ h9 => h9) rfl hin rfl (by decide +kernel) rfl rfl (Nat.le_of_ble_eq_true rfl) dX0_init_14 (fun H locs hP hD hS => ?_)
  have hP : va_P D vwCl [(h0, .inr (0, [.int (iI 0), .ref q1, .null, .null])), (q1, zi dT 16)] H := hP
  have hD : va_D A [(h0, .inr (0, [.int (iI 0), .ref q1, .null, .null])), (q1, zi dT 16)] := hD
  refine lv_aload_n hx hb dX0_init_17 rfl (lv_at hl 0 rfl) ?_
  refine lv_bipush (v := iI 16) hx hb dX0_init_18 (by decide +kernel) ?_
  refine nw_arr (cA0 := dT 0) (atype := .int) (ty := .int) (N' := 16) (a0 := (16, .inl (fun _ => iI 0))) hx hb (hts (.arrayClass .int) (List.mem_cons_of_mem _ (gtm 36 (by decide +kernel) (by decide +kernel)))) rfl hK hP hD hS hA (ha_i 16) (by decide +kernel) (by decide +kernel) (Nat.le_of_ble_eq_true rfl) (Nat.le_of_ble_eq_true rfl) (Nat.le_of_ble_eq_true rfl) dX0_init_20 0 rfl (fun _ => Iff.rfl) (fun q2 H hP hD hS => ?_)
  have hP : va_P D vwCl [(h0, .inr (0, [.int (iI 0), .ref q1, .null, .null])), (q1, zi dT 16), (q2, zi dT 16)] H := hP
  have hD : va_D A [(h0, .inr (0, [.int (iI 0), .ref q1, .null, .null])), (q1, zi dT 16), (q2, zi dT 16)] := hD
  refine va_putF (D := D) (ci := 0) (v := .ref q2) (ty := (.array .int)) (C := RX0) (T := TX0) (N := 4) hx hb hts (fun w hw => List.mem_cons_of_mem _ (inGX0 w hw)) tyX0 tyX0_ok nmX0 hown hK hP hD hS 0 rfl rfl 2 (by decide) (hts (.fieldLink RX0 17 "SpelledTones$Acts" "wheres" "[I") (List.mem_cons_of_mem _ (gtm 186 (by decide +kernel) (by decide +kernel)))) (fun _ h9 => h9) rfl hin rfl (by decide +kernel) rfl rfl (Nat.le_of_ble_eq_true rfl) dX0_init_22 (fun H locs hP hD hS => ?_)
  have hP : va_P D vwCl [(h0, .inr (0, [.int (iI 0), .ref q1, .ref q2, .null])), (q1, zi dT 16), (q2, zi dT 16)] H := hP
  have hD : va_D A [(h0, .inr (0, [.int (iI 0), .ref q1, .ref q2, .null])), (q1, zi dT 16), (q2, zi dT 16)] := hD
  refine lv_aload_n hx hb dX0_init_25 rfl (lv_at hl 0 rfl) ?_
  refine lv_bipush (v := iI 16) hx hb dX0_init_26 (by decide +kernel) ?_
  refine nw_arr (cA0 := dT 0) (atype := .int) (ty := .int) (N' := 16) (a0 := (16, .inl (fun _ => iI 0))) hx hb (hts (.arrayClass .int) (List.mem_cons_of_mem _ (gtm 36 (by decide +kernel) (by decide +kernel)))) rfl hK hP hD hS hA (ha_i 16) (by decide +kernel) (by decide +kernel) (Nat.le_of_ble_eq_true rfl) (Nat.le_of_ble_eq_true rfl) (Nat.le_of_ble_eq_true rfl) dX0_init_28 0 rfl (fun _ => Iff.rfl) (fun q3 H hP hD hS => ?_)
  have hP : va_P D vwCl [(h0, .inr (0, [.int (iI 0), .ref q1, .ref q2, .null])), (q1, zi dT 16), (q2, zi dT 16), (q3, zi dT 16)] H := hP
  have hD : va_D A [(h0, .inr (0, [.int (iI 0), .ref q1, .ref q2, .null])), (q1, zi dT 16), (q2, zi dT 16), (q3, zi dT 16)] := hD
  refine va_putF (D := D) (ci := 0) (v := .ref q3) (ty := (.array .int)) (C := RX0) (T := TX0) (N := 4) hx hb hts (fun w hw => List.mem_cons_of_mem _ (inGX0 w hw)) tyX0 tyX0_ok nmX0 hown hK hP hD hS 0 rfl rfl 3 (by decide) (hts (.fieldLink RX0 20 "SpelledTones$Acts" "befores" "[I") (List.mem_cons_of_mem _ (gtm 187 (by decide +kernel) (by decide +kernel)))) (fun _ h9 => h9) rfl hin rfl (by decide +kernel) rfl rfl (Nat.le_of_ble_eq_true rfl) dX0_init_30 (fun H locs hP hD hS => ?_)
  have hP : va_P D vwCl [(h0, .inr (0, [.int (iI 0), .ref q1, .ref q2, .ref q3])), (q1, zi dT 16), (q2, zi dT 16), (q3, zi dT 16)] H := hP
  have hD : va_D A [(h0, .inr (0, [.int (iI 0), .ref q1, .ref q2, .ref q3])), (q1, zi dT 16), (q2, zi dT 16), (q3, zi dT 16)] := hD
  refine W.widen (k := 3) (n := 48) (Nat.le_of_ble_eq_true rfl) (Nat.le_of_ble_eq_true rfl) ?_
  exact W.vret hx hb hr (fun t ht hW => ⟨⟨(), rfl, trivial, q1, q2, q3, by rw [ht]; exact hP, by first | exact hD | (rw [hAe]; exact hD)⟩, by first | exact hS.F ht | (rw [hAe]; exact hS.F ht)⟩) hS.2.2 dX0_init_33
set_option maxHeartbeats 4000000 in
set_option maxRecDepth 100000 in
theorem c_X1_init (l : Launch) (dT : Nat → ClassId) (D : va_G) (h0 : Nat) (sz : Nat) : Met l yX1_init (Cond.code yX1_init cX1_init 1 none :: gtb) ({ frames := 1, cells := 1, slots := 16, locals := 12 }) (va_Pc [.ref h0] (fun U => U.heap.size = sz ∧ va_P D vwCl [(h0, .inr (1, [.int (iI 0), .null, .int (iI 0), .int (iI 0), .int (iI 0), .int (iI 0)]))] U.heap ∧ va_K D vwCl (tysD dT) U ∧ va_D (fun _ => True) [(h0, .inr (1, [.int (iI 0), .null, .int (iI 0), .int (iI 0), .int (iI 0), .int (iI 0)]))])) (va_Qv (fun _ : Unit => True) (fun _ t => ∃ (q1 : Nat), va_P D vwCl [(h0, .inr (1, [.int (iI 0), .ref q1, .int (iI 0), .int (iI 0), .int (iI 0), .int (iI 0)])), (q1, zi dT 16)] t.heap ∧ va_D (va_A [(h0, .inr (1, [.int (iI 0), .null, .int (iI 0), .int (iI 0), .int (iI 0), .int (iI 0)]))] sz) [(h0, .inr (1, [.int (iI 0), .ref q1, .int (iI 0), .int (iI 0), .int (iI 0), .int (iI 0)])), (q1, zi dT 16)]) (va_A [(h0, .inr (1, [.int (iI 0), .null, .int (iI 0), .int (iI 0), .int (iI 0), .int (iI 0)]))] sz)) 1 16 (va_A [(h0, .inr (1, [.int (iI 0), .null, .int (iI 0), .int (iI 0), .int (iI 0), .int (iI 0)]))] sz) := by
  refine Met.ofW (cc := cX1_init) (maxL := 1) (ret := none) (by decide +kernel) rfl ?_
  intro p e s m args below meth c s₁ B hml hv
  obtain ⟨rfl, hsz, hP, hK, hD0⟩ := hv
  have hx := B.exec
  have hb := B.bytes
  have hr := B.returns
  have hts := atoms_spec (ws := Cond.code yX1_init cX1_init 1 none :: gtb) B.pre
  have hown : s.vm.findClass RX1 = some m.cls := findClass_of_methodNamed B.named
  have hlocks := B.notSynchronized
  have hin : meth.name = "<init>" := (name_of_methodNamed B.named B.method).1
  subst hsz
  have hD := hD0.self (sz := s.heap.size)
  generalize hAe : va_A [(h0, .inr (1, [.int (iI 0), .null, .int (iI 0), .int (iI 0), .int (iI 0), .int (iI 0)]))] s.heap.size = A at hD ⊢
  have hA : ∀ q : Nat, s.heap.size ≤ q → A q := fun q h => by rw [← hAe]; exact Or.inr h
  have hS : va_S A s.heap s.heap [] := va_S.rf
  have hP : va_P D vwCl [(h0, .inr (1, [.int (iI 0), .null, .int (iI 0), .int (iI 0), .int (iI 0), .int (iI 0)]))] s.heap := hP
  have hl := lv_entry ([.ref h0]) (n := 1) (Nat.le_of_ble_eq_true rfl)
  rw [lg_entry_eq]
  generalize (lg_sl ([.ref h0]) ++ List.replicate (1 - (lg_sl ([.ref h0])).length) Slot.unset).toArray = ls at hl ⊢
  have hl : lv_has ls 1 [(0, .ref h0)] := hl
  refine lv_aload_n hx hb dX1_init_0 rfl (lv_at hl 0 rfl) ?_
  refine W.objInit hx hb hown (hts (.methodLink RX1 1 objectInit) (List.mem_cons_of_mem _ (gtm 202 (by decide +kernel) (by decide +kernel)))) (hts (.instanceMethod objectInit) (List.mem_cons_of_mem _ (gtm 18 (by decide +kernel) (by decide +kernel)))) (hts (.code objectInit ⟨#[0xb1]⟩ 1 none) (List.mem_cons_of_mem _ (gtm 19 (by decide +kernel) (by decide +kernel)))) rfl (by rw [hml]; exact hl.1) rfl dX1_init_1 (Nat.le_of_ble_eq_true rfl) (Nat.le_of_ble_eq_true rfl) ?_
  refine W.eq (g2 := F0 m 4 ls []) rfl ?_
  refine lv_aload_n hx hb dX1_init_4 rfl (lv_at hl 0 rfl) ?_
  refine lv_iconst (v := iI 0) hx hb dX1_init_5 (by decide +kernel) ?_
  refine va_put (D := D) (ci := 1) (v := .int (iI 0)) (ty := .int) (C := RX1) (T := TX1) (N := 6) hx hb hts (fun w hw => List.mem_cons_of_mem _ (inGX1 w hw)) tyX1 tyX1_ok nmX1 hown hK hP hD hS 0 rfl rfl 0 (by decide) (hts (.fieldLink RX1 7 "SpelledTones$Asks" "traced" "I") (List.mem_cons_of_mem _ (gtm 203 (by decide +kernel) (by decide +kernel)))) (fun _ h9 => h9) rfl (by decide +kernel) rfl rfl (Nat.le_of_ble_eq_true rfl) dX1_init_6 (fun H locs hP hD hS => ?_)
  have hP : va_P D vwCl [(h0, .inr (1, [.int (iI 0), .null, .int (iI 0), .int (iI 0), .int (iI 0), .int (iI 0)]))] H := hP
  have hD : va_D A [(h0, .inr (1, [.int (iI 0), .null, .int (iI 0), .int (iI 0), .int (iI 0), .int (iI 0)]))] := hD
  refine lv_aload_n hx hb dX1_init_9 rfl (lv_at hl 0 rfl) ?_
  refine lv_bipush (v := iI 16) hx hb dX1_init_10 (by decide +kernel) ?_
  refine nw_arr (cA0 := dT 0) (atype := .int) (ty := .int) (N' := 16) (a0 := (16, .inl (fun _ => iI 0))) hx hb (hts (.arrayClass .int) (List.mem_cons_of_mem _ (gtm 36 (by decide +kernel) (by decide +kernel)))) rfl hK hP hD hS hA (ha_i 16) (by decide +kernel) (by decide +kernel) (Nat.le_of_ble_eq_true rfl) (Nat.le_of_ble_eq_true rfl) (Nat.le_of_ble_eq_true rfl) dX1_init_12 0 rfl (fun _ => Iff.rfl) (fun q1 H hP hD hS => ?_)
  have hP : va_P D vwCl [(h0, .inr (1, [.int (iI 0), .null, .int (iI 0), .int (iI 0), .int (iI 0), .int (iI 0)])), (q1, zi dT 16)] H := hP
  have hD : va_D A [(h0, .inr (1, [.int (iI 0), .null, .int (iI 0), .int (iI 0), .int (iI 0), .int (iI 0)])), (q1, zi dT 16)] := hD
  refine va_putF (D := D) (ci := 1) (v := .ref q1) (ty := (.array .int)) (C := RX1) (T := TX1) (N := 6) hx hb hts (fun w hw => List.mem_cons_of_mem _ (inGX1 w hw)) tyX1 tyX1_ok nmX1 hown hK hP hD hS 0 rfl rfl 1 (by decide) (hts (.fieldLink RX1 13 "SpelledTones$Asks" "bodies" "[I") (List.mem_cons_of_mem _ (gtm 205 (by decide +kernel) (by decide +kernel)))) (fun _ h9 => h9) rfl hin rfl (by decide +kernel) rfl rfl (Nat.le_of_ble_eq_true rfl) dX1_init_14 (fun H locs hP hD hS => ?_)
  have hP : va_P D vwCl [(h0, .inr (1, [.int (iI 0), .ref q1, .int (iI 0), .int (iI 0), .int (iI 0), .int (iI 0)])), (q1, zi dT 16)] H := hP
  have hD : va_D A [(h0, .inr (1, [.int (iI 0), .ref q1, .int (iI 0), .int (iI 0), .int (iI 0), .int (iI 0)])), (q1, zi dT 16)] := hD
  refine lv_aload_n hx hb dX1_init_17 rfl (lv_at hl 0 rfl) ?_
  refine lv_iconst (v := iI 0) hx hb dX1_init_18 (by decide +kernel) ?_
  refine va_put (D := D) (ci := 1) (v := .int (iI 0)) (ty := .int) (C := RX1) (T := TX1) (N := 6) hx hb hts (fun w hw => List.mem_cons_of_mem _ (inGX1 w hw)) tyX1 tyX1_ok nmX1 hown hK hP hD hS 0 rfl rfl 2 (by decide) (hts (.fieldLink RX1 17 "SpelledTones$Asks" "kind" "I") (List.mem_cons_of_mem _ (gtm 207 (by decide +kernel) (by decide +kernel)))) (fun _ h9 => h9) rfl (by decide +kernel) rfl rfl (Nat.le_of_ble_eq_true rfl) dX1_init_19 (fun H locs hP hD hS => ?_)
  have hP : va_P D vwCl [(h0, .inr (1, [.int (iI 0), .ref q1, .int (iI 0), .int (iI 0), .int (iI 0), .int (iI 0)])), (q1, zi dT 16)] H := hP
  have hD : va_D A [(h0, .inr (1, [.int (iI 0), .ref q1, .int (iI 0), .int (iI 0), .int (iI 0), .int (iI 0)])), (q1, zi dT 16)] := hD
  refine lv_aload_n hx hb dX1_init_22 rfl (lv_at hl 0 rfl) ?_
  refine lv_iconst (v := iI 0) hx hb dX1_init_23 (by decide +kernel) ?_
  refine va_put (D := D) (ci := 1) (v := .int (iI 0)) (ty := .int) (C := RX1) (T := TX1) (N := 6) hx hb hts (fun w hw => List.mem_cons_of_mem _ (inGX1 w hw)) tyX1 tyX1_ok nmX1 hown hK hP hD hS 0 rfl rfl 3 (by decide) (hts (.fieldLink RX1 20 "SpelledTones$Asks" "number" "I") (List.mem_cons_of_mem _ (gtm 208 (by decide +kernel) (by decide +kernel)))) (fun _ h9 => h9) rfl (by decide +kernel) rfl rfl (Nat.le_of_ble_eq_true rfl) dX1_init_24 (fun H locs hP hD hS => ?_)
  have hP : va_P D vwCl [(h0, .inr (1, [.int (iI 0), .ref q1, .int (iI 0), .int (iI 0), .int (iI 0), .int (iI 0)])), (q1, zi dT 16)] H := hP
  have hD : va_D A [(h0, .inr (1, [.int (iI 0), .ref q1, .int (iI 0), .int (iI 0), .int (iI 0), .int (iI 0)])), (q1, zi dT 16)] := hD
  refine lv_aload_n hx hb dX1_init_27 rfl (lv_at hl 0 rfl) ?_
  refine lv_iconst (v := iI 0) hx hb dX1_init_28 (by decide +kernel) ?_
  refine va_put (D := D) (ci := 1) (v := .int (iI 0)) (ty := .int) (C := RX1) (T := TX1) (N := 6) hx hb hts (fun w hw => List.mem_cons_of_mem _ (inGX1 w hw)) tyX1 tyX1_ok nmX1 hown hK hP hD hS 0 rfl rfl 4 (by decide) (hts (.fieldLink RX1 23 "SpelledTones$Asks" "notes" "I") (List.mem_cons_of_mem _ (gtm 209 (by decide +kernel) (by decide +kernel)))) (fun _ h9 => h9) rfl (by decide +kernel) rfl rfl (Nat.le_of_ble_eq_true rfl) dX1_init_29 (fun H locs hP hD hS => ?_)
  have hP : va_P D vwCl [(h0, .inr (1, [.int (iI 0), .ref q1, .int (iI 0), .int (iI 0), .int (iI 0), .int (iI 0)])), (q1, zi dT 16)] H := hP
  have hD : va_D A [(h0, .inr (1, [.int (iI 0), .ref q1, .int (iI 0), .int (iI 0), .int (iI 0), .int (iI 0)])), (q1, zi dT 16)] := hD
  refine lv_aload_n hx hb dX1_init_32 rfl (lv_at hl 0 rfl) ?_
  refine lv_iconst (v := iI 0) hx hb dX1_init_33 (by decide +kernel) ?_
  refine va_put (D := D) (ci := 1) (v := .int (iI 0)) (ty := .int) (C := RX1) (T := TX1) (N := 6) hx hb hts (fun w hw => List.mem_cons_of_mem _ (inGX1 w hw)) tyX1 tyX1_ok nmX1 hown hK hP hD hS 0 rfl rfl 5 (by decide) (hts (.fieldLink RX1 26 "SpelledTones$Asks" "window" "I") (List.mem_cons_of_mem _ (gtm 210 (by decide +kernel) (by decide +kernel)))) (fun _ h9 => h9) rfl (by decide +kernel) rfl rfl (Nat.le_of_ble_eq_true rfl) dX1_init_34 (fun H locs hP hD hS => ?_)
  have hP : va_P D vwCl [(h0, .inr (1, [.int (iI 0), .ref q1, .int (iI 0), .int (iI 0), .int (iI 0), .int (iI 0)])), (q1, zi dT 16)] H := hP
  have hD : va_D A [(h0, .inr (1, [.int (iI 0), .ref q1, .int (iI 0), .int (iI 0), .int (iI 0), .int (iI 0)])), (q1, zi dT 16)] := hD
  refine W.widen (k := 1) (n := 16) (Nat.le_of_ble_eq_true rfl) (Nat.le_of_ble_eq_true rfl) ?_
  exact W.vret hx hb hr (fun t ht hW => ⟨⟨(), rfl, trivial, q1, by rw [ht]; exact hP, by first | exact hD | (rw [hAe]; exact hD)⟩, by first | exact hS.F ht | (rw [hAe]; exact hS.F ht)⟩) hS.2.2 dX1_init_37
set_option maxHeartbeats 4000000 in
set_option maxRecDepth 100000 in
theorem c_X2_init (l : Launch) (dT : Nat → ClassId) (D : va_G) (h0 : Nat) (sz : Nat) : Met l yX2_init (Cond.code yX2_init cX2_init 1 none :: gtb) ({ frames := 1, cells := 7, slots := 817, locals := 12 }) (va_Pc [.ref h0] (fun U => U.heap.size = sz ∧ va_P D vwCl [(h0, .inr (2, [.int (iI 0), .int (iI 0), .int (iI 0), .null, .null, .null, .null, .null, .null, .null]))] U.heap ∧ va_K D vwCl (tysD dT) U ∧ va_D (fun _ => True) [(h0, .inr (2, [.int (iI 0), .int (iI 0), .int (iI 0), .null, .null, .null, .null, .null, .null, .null]))])) (va_Qv (fun _ : Unit => True) (fun _ t => ∃ (q1 q2 q3 q4 q5 q6 q7 : Nat), va_P D vwCl [(h0, .inr (2, [.int (iI 0), .int (iI 0), .int (iI 0), .ref q1, .ref q2, .ref q3, .ref q4, .ref q5, .ref q6, .ref q7])), (q1, zi dT 10), (q2, zi dT 40), (q3, zi dT 40), (q4, zi dT 240), (q5, zl dT 240), (q6, zi dT 240), (q7, zi dT 7)] t.heap ∧ va_D (va_A [(h0, .inr (2, [.int (iI 0), .int (iI 0), .int (iI 0), .null, .null, .null, .null, .null, .null, .null]))] sz) [(h0, .inr (2, [.int (iI 0), .int (iI 0), .int (iI 0), .ref q1, .ref q2, .ref q3, .ref q4, .ref q5, .ref q6, .ref q7])), (q1, zi dT 10), (q2, zi dT 40), (q3, zi dT 40), (q4, zi dT 240), (q5, zl dT 240), (q6, zi dT 240), (q7, zi dT 7)]) (va_A [(h0, .inr (2, [.int (iI 0), .int (iI 0), .int (iI 0), .null, .null, .null, .null, .null, .null, .null]))] sz)) 7 817 (va_A [(h0, .inr (2, [.int (iI 0), .int (iI 0), .int (iI 0), .null, .null, .null, .null, .null, .null, .null]))] sz) := by
  refine Met.ofW (cc := cX2_init) (maxL := 1) (ret := none) (by decide +kernel) rfl ?_
  intro p e s m args below meth c s₁ B hml hv
  obtain ⟨rfl, hsz, hP, hK, hD0⟩ := hv
  have hx := B.exec
  have hb := B.bytes
  have hr := B.returns
  have hts := atoms_spec (ws := Cond.code yX2_init cX2_init 1 none :: gtb) B.pre
  have hown : s.vm.findClass RX2 = some m.cls := findClass_of_methodNamed B.named
  have hlocks := B.notSynchronized
  have hin : meth.name = "<init>" := (name_of_methodNamed B.named B.method).1
  subst hsz
  have hD := hD0.self (sz := s.heap.size)
  generalize hAe : va_A [(h0, .inr (2, [.int (iI 0), .int (iI 0), .int (iI 0), .null, .null, .null, .null, .null, .null, .null]))] s.heap.size = A at hD ⊢
  have hA : ∀ q : Nat, s.heap.size ≤ q → A q := fun q h => by rw [← hAe]; exact Or.inr h
  have hS : va_S A s.heap s.heap [] := va_S.rf
  have hP : va_P D vwCl [(h0, .inr (2, [.int (iI 0), .int (iI 0), .int (iI 0), .null, .null, .null, .null, .null, .null, .null]))] s.heap := hP
  have hl := lv_entry ([.ref h0]) (n := 1) (Nat.le_of_ble_eq_true rfl)
  rw [lg_entry_eq]
  generalize (lg_sl ([.ref h0]) ++ List.replicate (1 - (lg_sl ([.ref h0])).length) Slot.unset).toArray = ls at hl ⊢
  have hl : lv_has ls 1 [(0, .ref h0)] := hl
  refine lv_aload_n hx hb dX2_init_0 rfl (lv_at hl 0 rfl) ?_
  refine W.objInit hx hb hown (hts (.methodLink RX2 3 objectInit) (List.mem_cons_of_mem _ (gtm 137 (by decide +kernel) (by decide +kernel)))) (hts (.instanceMethod objectInit) (List.mem_cons_of_mem _ (gtm 18 (by decide +kernel) (by decide +kernel)))) (hts (.code objectInit ⟨#[0xb1]⟩ 1 none) (List.mem_cons_of_mem _ (gtm 19 (by decide +kernel) (by decide +kernel)))) rfl (by rw [hml]; exact hl.1) rfl dX2_init_1 (Nat.le_of_ble_eq_true rfl) (Nat.le_of_ble_eq_true rfl) ?_
  refine W.eq (g2 := F0 m 4 ls []) rfl ?_
  refine lv_aload_n hx hb dX2_init_4 rfl (lv_at hl 0 rfl) ?_
  refine lv_iconst (v := iI 0) hx hb dX2_init_5 (by decide +kernel) ?_
  refine va_put (D := D) (ci := 2) (v := .int (iI 0)) (ty := .int) (C := RX2) (T := TX2) (N := 10) hx hb hts (fun w hw => List.mem_cons_of_mem _ (inGX2 w hw)) tyX2 tyX2_ok nmX2 hown hK hP hD hS 0 rfl rfl 0 (by decide) (hts (.fieldLink RX2 9 "SpelledTones$Best" "cost" "I") (List.mem_cons_of_mem _ (gtm 138 (by decide +kernel) (by decide +kernel)))) (fun _ h9 => h9) rfl (by decide +kernel) rfl rfl (Nat.le_of_ble_eq_true rfl) dX2_init_6 (fun H locs hP hD hS => ?_)
  have hP : va_P D vwCl [(h0, .inr (2, [.int (iI 0), .int (iI 0), .int (iI 0), .null, .null, .null, .null, .null, .null, .null]))] H := hP
  have hD : va_D A [(h0, .inr (2, [.int (iI 0), .int (iI 0), .int (iI 0), .null, .null, .null, .null, .null, .null, .null]))] := hD
  refine lv_aload_n hx hb dX2_init_9 rfl (lv_at hl 0 rfl) ?_
  refine lv_iconst (v := iI 0) hx hb dX2_init_10 (by decide +kernel) ?_
  refine va_put (D := D) (ci := 2) (v := .int (iI 0)) (ty := .int) (C := RX2) (T := TX2) (N := 10) hx hb hts (fun w hw => List.mem_cons_of_mem _ (inGX2 w hw)) tyX2 tyX2_ok nmX2 hown hK hP hD hS 0 rfl rfl 1 (by decide) (hts (.fieldLink RX2 15 "SpelledTones$Best" "ways" "I") (List.mem_cons_of_mem _ (gtm 140 (by decide +kernel) (by decide +kernel)))) (fun _ h9 => h9) rfl (by decide +kernel) rfl rfl (Nat.le_of_ble_eq_true rfl) dX2_init_11 (fun H locs hP hD hS => ?_)
  have hP : va_P D vwCl [(h0, .inr (2, [.int (iI 0), .int (iI 0), .int (iI 0), .null, .null, .null, .null, .null, .null, .null]))] H := hP
  have hD : va_D A [(h0, .inr (2, [.int (iI 0), .int (iI 0), .int (iI 0), .null, .null, .null, .null, .null, .null, .null]))] := hD
  refine lv_aload_n hx hb dX2_init_14 rfl (lv_at hl 0 rfl) ?_
  refine lv_iconst (v := iI 0) hx hb dX2_init_15 (by decide +kernel) ?_
  refine va_put (D := D) (ci := 2) (v := .int (iI 0)) (ty := .int) (C := RX2) (T := TX2) (N := 10) hx hb hts (fun w hw => List.mem_cons_of_mem _ (inGX2 w hw)) tyX2 tyX2_ok nmX2 hown hK hP hD hS 0 rfl rfl 2 (by decide) (hts (.fieldLink RX2 18 "SpelledTones$Best" "signs" "I") (List.mem_cons_of_mem _ (gtm 142 (by decide +kernel) (by decide +kernel)))) (fun _ h9 => h9) rfl (by decide +kernel) rfl rfl (Nat.le_of_ble_eq_true rfl) dX2_init_16 (fun H locs hP hD hS => ?_)
  have hP : va_P D vwCl [(h0, .inr (2, [.int (iI 0), .int (iI 0), .int (iI 0), .null, .null, .null, .null, .null, .null, .null]))] H := hP
  have hD : va_D A [(h0, .inr (2, [.int (iI 0), .int (iI 0), .int (iI 0), .null, .null, .null, .null, .null, .null, .null]))] := hD
  refine lv_aload_n hx hb dX2_init_19 rfl (lv_at hl 0 rfl) ?_
  refine lv_bipush (v := iI 10) hx hb dX2_init_20 (by decide +kernel) ?_
  refine nw_arr (cA0 := dT 0) (atype := .int) (ty := .int) (N' := 10) (a0 := (10, .inl (fun _ => iI 0))) hx hb (hts (.arrayClass .int) (List.mem_cons_of_mem _ (gtm 36 (by decide +kernel) (by decide +kernel)))) rfl hK hP hD hS hA (ha_i 10) (by decide +kernel) (by decide +kernel) (Nat.le_of_ble_eq_true rfl) (Nat.le_of_ble_eq_true rfl) (Nat.le_of_ble_eq_true rfl) dX2_init_22 0 rfl (fun _ => Iff.rfl) (fun q1 H hP hD hS => ?_)
  have hP : va_P D vwCl [(h0, .inr (2, [.int (iI 0), .int (iI 0), .int (iI 0), .null, .null, .null, .null, .null, .null, .null])), (q1, zi dT 10)] H := hP
  have hD : va_D A [(h0, .inr (2, [.int (iI 0), .int (iI 0), .int (iI 0), .null, .null, .null, .null, .null, .null, .null])), (q1, zi dT 10)] := hD
  refine va_putF (D := D) (ci := 2) (v := .ref q1) (ty := (.array .int)) (C := RX2) (T := TX2) (N := 10) hx hb hts (fun w hw => List.mem_cons_of_mem _ (inGX2 w hw)) tyX2 tyX2_ok nmX2 hown hK hP hD hS 0 rfl rfl 3 (by decide) (hts (.fieldLink RX2 21 "SpelledTones$Best" "windows" "[I") (List.mem_cons_of_mem _ (gtm 144 (by decide +kernel) (by decide +kernel)))) (fun _ h9 => h9) rfl hin rfl (by decide +kernel) rfl rfl (Nat.le_of_ble_eq_true rfl) dX2_init_24 (fun H locs hP hD hS => ?_)
  have hP : va_P D vwCl [(h0, .inr (2, [.int (iI 0), .int (iI 0), .int (iI 0), .ref q1, .null, .null, .null, .null, .null, .null])), (q1, zi dT 10)] H := hP
  have hD : va_D A [(h0, .inr (2, [.int (iI 0), .int (iI 0), .int (iI 0), .ref q1, .null, .null, .null, .null, .null, .null])), (q1, zi dT 10)] := hD
  refine lv_aload_n hx hb dX2_init_27 rfl (lv_at hl 0 rfl) ?_
  refine lv_bipush (v := iI 40) hx hb dX2_init_28 (by decide +kernel) ?_
  refine nw_arr (cA0 := dT 0) (atype := .int) (ty := .int) (N' := 40) (a0 := (40, .inl (fun _ => iI 0))) hx hb (hts (.arrayClass .int) (List.mem_cons_of_mem _ (gtm 36 (by decide +kernel) (by decide +kernel)))) rfl hK hP hD hS hA (ha_i 40) (by decide +kernel) (by decide +kernel) (Nat.le_of_ble_eq_true rfl) (Nat.le_of_ble_eq_true rfl) (Nat.le_of_ble_eq_true rfl) dX2_init_30 0 rfl (fun _ => Iff.rfl) (fun q2 H hP hD hS => ?_)
  have hP : va_P D vwCl [(h0, .inr (2, [.int (iI 0), .int (iI 0), .int (iI 0), .ref q1, .null, .null, .null, .null, .null, .null])), (q1, zi dT 10), (q2, zi dT 40)] H := hP
  have hD : va_D A [(h0, .inr (2, [.int (iI 0), .int (iI 0), .int (iI 0), .ref q1, .null, .null, .null, .null, .null, .null])), (q1, zi dT 10), (q2, zi dT 40)] := hD
  refine va_putF (D := D) (ci := 2) (v := .ref q2) (ty := (.array .int)) (C := RX2) (T := TX2) (N := 10) hx hb hts (fun w hw => List.mem_cons_of_mem _ (inGX2 w hw)) tyX2 tyX2_ok nmX2 hown hK hP hD hS 0 rfl rfl 4 (by decide) (hts (.fieldLink RX2 25 "SpelledTones$Best" "names" "[I") (List.mem_cons_of_mem _ (gtm 146 (by decide +kernel) (by decide +kernel)))) (fun _ h9 => h9) rfl hin rfl (by decide +kernel) rfl rfl (Nat.le_of_ble_eq_true rfl) dX2_init_32 (fun H locs hP hD hS => ?_)
  have hP : va_P D vwCl [(h0, .inr (2, [.int (iI 0), .int (iI 0), .int (iI 0), .ref q1, .ref q2, .null, .null, .null, .null, .null])), (q1, zi dT 10), (q2, zi dT 40)] H := hP
  have hD : va_D A [(h0, .inr (2, [.int (iI 0), .int (iI 0), .int (iI 0), .ref q1, .ref q2, .null, .null, .null, .null, .null])), (q1, zi dT 10), (q2, zi dT 40)] := hD
  refine lv_aload_n hx hb dX2_init_35 rfl (lv_at hl 0 rfl) ?_
  refine lv_bipush (v := iI 40) hx hb dX2_init_36 (by decide +kernel) ?_
  refine nw_arr (cA0 := dT 0) (atype := .int) (ty := .int) (N' := 40) (a0 := (40, .inl (fun _ => iI 0))) hx hb (hts (.arrayClass .int) (List.mem_cons_of_mem _ (gtm 36 (by decide +kernel) (by decide +kernel)))) rfl hK hP hD hS hA (ha_i 40) (by decide +kernel) (by decide +kernel) (Nat.le_of_ble_eq_true rfl) (Nat.le_of_ble_eq_true rfl) (Nat.le_of_ble_eq_true rfl) dX2_init_38 0 rfl (fun _ => Iff.rfl) (fun q3 H hP hD hS => ?_)
  have hP : va_P D vwCl [(h0, .inr (2, [.int (iI 0), .int (iI 0), .int (iI 0), .ref q1, .ref q2, .null, .null, .null, .null, .null])), (q1, zi dT 10), (q2, zi dT 40), (q3, zi dT 40)] H := hP
  have hD : va_D A [(h0, .inr (2, [.int (iI 0), .int (iI 0), .int (iI 0), .ref q1, .ref q2, .null, .null, .null, .null, .null])), (q1, zi dT 10), (q2, zi dT 40), (q3, zi dT 40)] := hD
  refine va_putF (D := D) (ci := 2) (v := .ref q3) (ty := (.array .int)) (C := RX2) (T := TX2) (N := 10) hx hb hts (fun w hw => List.mem_cons_of_mem _ (inGX2 w hw)) tyX2 tyX2_ok nmX2 hown hK hP hD hS 0 rfl rfl 5 (by decide) (hts (.fieldLink RX2 28 "SpelledTones$Best" "printed" "[I") (List.mem_cons_of_mem _ (gtm 148 (by decide +kernel) (by decide +kernel)))) (fun _ h9 => h9) rfl hin rfl (by decide +kernel) rfl rfl (Nat.le_of_ble_eq_true rfl) dX2_init_40 (fun H locs hP hD hS => ?_)
  have hP : va_P D vwCl [(h0, .inr (2, [.int (iI 0), .int (iI 0), .int (iI 0), .ref q1, .ref q2, .ref q3, .null, .null, .null, .null])), (q1, zi dT 10), (q2, zi dT 40), (q3, zi dT 40)] H := hP
  have hD : va_D A [(h0, .inr (2, [.int (iI 0), .int (iI 0), .int (iI 0), .ref q1, .ref q2, .ref q3, .null, .null, .null, .null])), (q1, zi dT 10), (q2, zi dT 40), (q3, zi dT 40)] := hD
  refine lv_aload_n hx hb dX2_init_43 rfl (lv_at hl 0 rfl) ?_
  refine lv_sipush (v := iI 240) hx hb dX2_init_44 (by decide +kernel) ?_
  refine nw_arr (cA0 := dT 0) (atype := .int) (ty := .int) (N' := 240) (a0 := (240, .inl (fun _ => iI 0))) hx hb (hts (.arrayClass .int) (List.mem_cons_of_mem _ (gtm 36 (by decide +kernel) (by decide +kernel)))) rfl hK hP hD hS hA (ha_i 240) (by decide +kernel) (by decide +kernel) (Nat.le_of_ble_eq_true rfl) (Nat.le_of_ble_eq_true rfl) (Nat.le_of_ble_eq_true rfl) dX2_init_47 0 rfl (fun _ => Iff.rfl) (fun q4 H hP hD hS => ?_)
  have hP : va_P D vwCl [(h0, .inr (2, [.int (iI 0), .int (iI 0), .int (iI 0), .ref q1, .ref q2, .ref q3, .null, .null, .null, .null])), (q1, zi dT 10), (q2, zi dT 40), (q3, zi dT 40), (q4, zi dT 240)] H := hP
  have hD : va_D A [(h0, .inr (2, [.int (iI 0), .int (iI 0), .int (iI 0), .ref q1, .ref q2, .ref q3, .null, .null, .null, .null])), (q1, zi dT 10), (q2, zi dT 40), (q3, zi dT 40), (q4, zi dT 240)] := hD
  refine va_putF (D := D) (ci := 2) (v := .ref q4) (ty := (.array .int)) (C := RX2) (T := TX2) (N := 10) hx hb hts (fun w hw => List.mem_cons_of_mem _ (inGX2 w hw)) tyX2 tyX2_ok nmX2 hown hK hP hD hS 0 rfl rfl 6 (by decide) (hts (.fieldLink RX2 31 "SpelledTones$Best" "costs" "[I") (List.mem_cons_of_mem _ (gtm 150 (by decide +kernel) (by decide +kernel)))) (fun _ h9 => h9) rfl hin rfl (by decide +kernel) rfl rfl (Nat.le_of_ble_eq_true rfl) dX2_init_49 (fun H locs hP hD hS => ?_)
  have hP : va_P D vwCl [(h0, .inr (2, [.int (iI 0), .int (iI 0), .int (iI 0), .ref q1, .ref q2, .ref q3, .ref q4, .null, .null, .null])), (q1, zi dT 10), (q2, zi dT 40), (q3, zi dT 40), (q4, zi dT 240)] H := hP
  have hD : va_D A [(h0, .inr (2, [.int (iI 0), .int (iI 0), .int (iI 0), .ref q1, .ref q2, .ref q3, .ref q4, .null, .null, .null])), (q1, zi dT 10), (q2, zi dT 40), (q3, zi dT 40), (q4, zi dT 240)] := hD
  refine lv_aload_n hx hb dX2_init_52 rfl (lv_at hl 0 rfl) ?_
  refine lv_sipush (v := iI 240) hx hb dX2_init_53 (by decide +kernel) ?_
  refine nw_arr (cA0 := dT 1) (atype := .long) (ty := .long) (N' := 240) (a0 := (240, .inr (.inl (fun _ => iL 0)))) hx hb (hts (.arrayClass .long) (List.mem_cons_of_mem _ (gtm 175 (by decide +kernel) (by decide +kernel)))) rfl hK hP hD hS hA (ha_l 240) (by decide +kernel) (by decide +kernel) (Nat.le_of_ble_eq_true rfl) (Nat.le_of_ble_eq_true rfl) (Nat.le_of_ble_eq_true rfl) dX2_init_56 1 rfl (fun _ => Iff.rfl) (fun q5 H hP hD hS => ?_)
  have hP : va_P D vwCl [(h0, .inr (2, [.int (iI 0), .int (iI 0), .int (iI 0), .ref q1, .ref q2, .ref q3, .ref q4, .null, .null, .null])), (q1, zi dT 10), (q2, zi dT 40), (q3, zi dT 40), (q4, zi dT 240), (q5, zl dT 240)] H := hP
  have hD : va_D A [(h0, .inr (2, [.int (iI 0), .int (iI 0), .int (iI 0), .ref q1, .ref q2, .ref q3, .ref q4, .null, .null, .null])), (q1, zi dT 10), (q2, zi dT 40), (q3, zi dT 40), (q4, zi dT 240), (q5, zl dT 240)] := hD
  refine va_putF (D := D) (ci := 2) (v := .ref q5) (ty := (.array .long)) (C := RX2) (T := TX2) (N := 10) hx hb hts (fun w hw => List.mem_cons_of_mem _ (inGX2 w hw)) tyX2 tyX2_ok nmX2 hown hK hP hD hS 0 rfl rfl 7 (by decide) (hts (.fieldLink RX2 34 "SpelledTones$Best" "counts" "[J") (List.mem_cons_of_mem _ (gtm 151 (by decide +kernel) (by decide +kernel)))) (fun _ h9 => h9) rfl hin rfl (by decide +kernel) rfl rfl (Nat.le_of_ble_eq_true rfl) dX2_init_58 (fun H locs hP hD hS => ?_)
  have hP : va_P D vwCl [(h0, .inr (2, [.int (iI 0), .int (iI 0), .int (iI 0), .ref q1, .ref q2, .ref q3, .ref q4, .ref q5, .null, .null])), (q1, zi dT 10), (q2, zi dT 40), (q3, zi dT 40), (q4, zi dT 240), (q5, zl dT 240)] H := hP
  have hD : va_D A [(h0, .inr (2, [.int (iI 0), .int (iI 0), .int (iI 0), .ref q1, .ref q2, .ref q3, .ref q4, .ref q5, .null, .null])), (q1, zi dT 10), (q2, zi dT 40), (q3, zi dT 40), (q4, zi dT 240), (q5, zl dT 240)] := hD
  refine lv_aload_n hx hb dX2_init_61 rfl (lv_at hl 0 rfl) ?_
  refine lv_sipush (v := iI 240) hx hb dX2_init_62 (by decide +kernel) ?_
  refine nw_arr (cA0 := dT 0) (atype := .int) (ty := .int) (N' := 240) (a0 := (240, .inl (fun _ => iI 0))) hx hb (hts (.arrayClass .int) (List.mem_cons_of_mem _ (gtm 36 (by decide +kernel) (by decide +kernel)))) rfl hK hP hD hS hA (ha_i 240) (by decide +kernel) (by decide +kernel) (Nat.le_of_ble_eq_true rfl) (Nat.le_of_ble_eq_true rfl) (Nat.le_of_ble_eq_true rfl) dX2_init_65 0 rfl (fun _ => Iff.rfl) (fun q6 H hP hD hS => ?_)
  have hP : va_P D vwCl [(h0, .inr (2, [.int (iI 0), .int (iI 0), .int (iI 0), .ref q1, .ref q2, .ref q3, .ref q4, .ref q5, .null, .null])), (q1, zi dT 10), (q2, zi dT 40), (q3, zi dT 40), (q4, zi dT 240), (q5, zl dT 240), (q6, zi dT 240)] H := hP
  have hD : va_D A [(h0, .inr (2, [.int (iI 0), .int (iI 0), .int (iI 0), .ref q1, .ref q2, .ref q3, .ref q4, .ref q5, .null, .null])), (q1, zi dT 10), (q2, zi dT 40), (q3, zi dT 40), (q4, zi dT 240), (q5, zl dT 240), (q6, zi dT 240)] := hD
  refine va_putF (D := D) (ci := 2) (v := .ref q6) (ty := (.array .int)) (C := RX2) (T := TX2) (N := 10) hx hb hts (fun w hw => List.mem_cons_of_mem _ (inGX2 w hw)) tyX2 tyX2_ok nmX2 hown hK hP hD hS 0 rfl rfl 8 (by decide) (hts (.fieldLink RX2 38 "SpelledTones$Best" "nexts" "[I") (List.mem_cons_of_mem _ (gtm 152 (by decide +kernel) (by decide +kernel)))) (fun _ h9 => h9) rfl hin rfl (by decide +kernel) rfl rfl (Nat.le_of_ble_eq_true rfl) dX2_init_67 (fun H locs hP hD hS => ?_)
  have hP : va_P D vwCl [(h0, .inr (2, [.int (iI 0), .int (iI 0), .int (iI 0), .ref q1, .ref q2, .ref q3, .ref q4, .ref q5, .ref q6, .null])), (q1, zi dT 10), (q2, zi dT 40), (q3, zi dT 40), (q4, zi dT 240), (q5, zl dT 240), (q6, zi dT 240)] H := hP
  have hD : va_D A [(h0, .inr (2, [.int (iI 0), .int (iI 0), .int (iI 0), .ref q1, .ref q2, .ref q3, .ref q4, .ref q5, .ref q6, .null])), (q1, zi dT 10), (q2, zi dT 40), (q3, zi dT 40), (q4, zi dT 240), (q5, zl dT 240), (q6, zi dT 240)] := hD
  refine lv_aload_n hx hb dX2_init_70 rfl (lv_at hl 0 rfl) ?_
  refine lv_bipush (v := iI 7) hx hb dX2_init_71 (by decide +kernel) ?_
  refine nw_arr (cA0 := dT 0) (atype := .int) (ty := .int) (N' := 7) (a0 := (7, .inl (fun _ => iI 0))) hx hb (hts (.arrayClass .int) (List.mem_cons_of_mem _ (gtm 36 (by decide +kernel) (by decide +kernel)))) rfl hK hP hD hS hA (ha_i 7) (by decide +kernel) (by decide +kernel) (Nat.le_of_ble_eq_true rfl) (Nat.le_of_ble_eq_true rfl) (Nat.le_of_ble_eq_true rfl) dX2_init_73 0 rfl (fun _ => Iff.rfl) (fun q7 H hP hD hS => ?_)
  have hP : va_P D vwCl [(h0, .inr (2, [.int (iI 0), .int (iI 0), .int (iI 0), .ref q1, .ref q2, .ref q3, .ref q4, .ref q5, .ref q6, .null])), (q1, zi dT 10), (q2, zi dT 40), (q3, zi dT 40), (q4, zi dT 240), (q5, zl dT 240), (q6, zi dT 240), (q7, zi dT 7)] H := hP
  have hD : va_D A [(h0, .inr (2, [.int (iI 0), .int (iI 0), .int (iI 0), .ref q1, .ref q2, .ref q3, .ref q4, .ref q5, .ref q6, .null])), (q1, zi dT 10), (q2, zi dT 40), (q3, zi dT 40), (q4, zi dT 240), (q5, zl dT 240), (q6, zi dT 240), (q7, zi dT 7)] := hD
  refine va_putF (D := D) (ci := 2) (v := .ref q7) (ty := (.array .int)) (C := RX2) (T := TX2) (N := 10) hx hb hts (fun w hw => List.mem_cons_of_mem _ (inGX2 w hw)) tyX2 tyX2_ok nmX2 hown hK hP hD hS 0 rfl rfl 9 (by decide) (hts (.fieldLink RX2 41 "SpelledTones$Best" "inForce" "[I") (List.mem_cons_of_mem _ (gtm 153 (by decide +kernel) (by decide +kernel)))) (fun _ h9 => h9) rfl hin rfl (by decide +kernel) rfl rfl (Nat.le_of_ble_eq_true rfl) dX2_init_75 (fun H locs hP hD hS => ?_)
  have hP : va_P D vwCl [(h0, .inr (2, [.int (iI 0), .int (iI 0), .int (iI 0), .ref q1, .ref q2, .ref q3, .ref q4, .ref q5, .ref q6, .ref q7])), (q1, zi dT 10), (q2, zi dT 40), (q3, zi dT 40), (q4, zi dT 240), (q5, zl dT 240), (q6, zi dT 240), (q7, zi dT 7)] H := hP
  have hD : va_D A [(h0, .inr (2, [.int (iI 0), .int (iI 0), .int (iI 0), .ref q1, .ref q2, .ref q3, .ref q4, .ref q5, .ref q6, .ref q7])), (q1, zi dT 10), (q2, zi dT 40), (q3, zi dT 40), (q4, zi dT 240), (q5, zl dT 240), (q6, zi dT 240), (q7, zi dT 7)] := hD
  refine W.widen (k := 7) (n := 817) (Nat.le_of_ble_eq_true rfl) (Nat.le_of_ble_eq_true rfl) ?_
  exact W.vret hx hb hr (fun t ht hW => ⟨⟨(), rfl, trivial, q1, q2, q3, q4, q5, q6, q7, by rw [ht]; exact hP, by first | exact hD | (rw [hAe]; exact hD)⟩, by first | exact hS.F ht | (rw [hAe]; exact hS.F ht)⟩) hS.2.2 dX2_init_78
set_option maxHeartbeats 4000000 in
set_option maxRecDepth 100000 in
theorem c_X4_init (l : Launch) (dT : Nat → ClassId) (D : va_G) (h0 : Nat) (sz : Nat) : Met l yX4_init (Cond.code yX4_init cX4_init 1 none :: gtb) ({ frames := 1, cells := 6, slots := 121, locals := 12 }) (va_Pc [.ref h0] (fun U => U.heap.size = sz ∧ va_P D vwCl [(h0, .inr (3, [.int (iI 0), .int (iI 0), .int (iI 0), .null, .null, .null, .null, .null, .null]))] U.heap ∧ va_K D vwCl (tysD dT) U ∧ va_D (fun _ => True) [(h0, .inr (3, [.int (iI 0), .int (iI 0), .int (iI 0), .null, .null, .null, .null, .null, .null]))])) (va_Qv (fun _ : Unit => True) (fun _ t => ∃ (q1 q2 q3 q4 q5 q6 : Nat), va_P D vwCl [(h0, .inr (3, [.int (iI 0), .int (iI 0), .int (iI 0), .ref q1, .ref q2, .ref q3, .ref q4, .ref q5, .ref q6])), (q1, zi dT 10), (q2, zi dT 10), (q3, zi dT 10), (q4, zi dT 11), (q5, zi dT 40), (q6, zi dT 40)] t.heap ∧ va_D (va_A [(h0, .inr (3, [.int (iI 0), .int (iI 0), .int (iI 0), .null, .null, .null, .null, .null, .null]))] sz) [(h0, .inr (3, [.int (iI 0), .int (iI 0), .int (iI 0), .ref q1, .ref q2, .ref q3, .ref q4, .ref q5, .ref q6])), (q1, zi dT 10), (q2, zi dT 10), (q3, zi dT 10), (q4, zi dT 11), (q5, zi dT 40), (q6, zi dT 40)]) (va_A [(h0, .inr (3, [.int (iI 0), .int (iI 0), .int (iI 0), .null, .null, .null, .null, .null, .null]))] sz)) 6 121 (va_A [(h0, .inr (3, [.int (iI 0), .int (iI 0), .int (iI 0), .null, .null, .null, .null, .null, .null]))] sz) := by
  refine Met.ofW (cc := cX4_init) (maxL := 1) (ret := none) (by decide +kernel) rfl ?_
  intro p e s m args below meth c s₁ B hml hv
  obtain ⟨rfl, hsz, hP, hK, hD0⟩ := hv
  have hx := B.exec
  have hb := B.bytes
  have hr := B.returns
  have hts := atoms_spec (ws := Cond.code yX4_init cX4_init 1 none :: gtb) B.pre
  have hown : s.vm.findClass RX4 = some m.cls := findClass_of_methodNamed B.named
  have hlocks := B.notSynchronized
  have hin : meth.name = "<init>" := (name_of_methodNamed B.named B.method).1
  subst hsz
  have hD := hD0.self (sz := s.heap.size)
  generalize hAe : va_A [(h0, .inr (3, [.int (iI 0), .int (iI 0), .int (iI 0), .null, .null, .null, .null, .null, .null]))] s.heap.size = A at hD ⊢
  have hA : ∀ q : Nat, s.heap.size ≤ q → A q := fun q h => by rw [← hAe]; exact Or.inr h
  have hS : va_S A s.heap s.heap [] := va_S.rf
  have hP : va_P D vwCl [(h0, .inr (3, [.int (iI 0), .int (iI 0), .int (iI 0), .null, .null, .null, .null, .null, .null]))] s.heap := hP
  have hl := lv_entry ([.ref h0]) (n := 1) (Nat.le_of_ble_eq_true rfl)
  rw [lg_entry_eq]
  generalize (lg_sl ([.ref h0]) ++ List.replicate (1 - (lg_sl ([.ref h0])).length) Slot.unset).toArray = ls at hl ⊢
  have hl : lv_has ls 1 [(0, .ref h0)] := hl
  refine lv_aload_n hx hb dX4_init_0 rfl (lv_at hl 0 rfl) ?_
  refine W.objInit hx hb hown (hts (.methodLink RX4 3 objectInit) (List.mem_cons_of_mem _ (gtm 81 (by decide +kernel) (by decide +kernel)))) (hts (.instanceMethod objectInit) (List.mem_cons_of_mem _ (gtm 18 (by decide +kernel) (by decide +kernel)))) (hts (.code objectInit ⟨#[0xb1]⟩ 1 none) (List.mem_cons_of_mem _ (gtm 19 (by decide +kernel) (by decide +kernel)))) rfl (by rw [hml]; exact hl.1) rfl dX4_init_1 (Nat.le_of_ble_eq_true rfl) (Nat.le_of_ble_eq_true rfl) ?_
  refine W.eq (g2 := F0 m 4 ls []) rfl ?_
  refine lv_aload_n hx hb dX4_init_4 rfl (lv_at hl 0 rfl) ?_
  refine lv_iconst (v := iI 0) hx hb dX4_init_5 (by decide +kernel) ?_
  refine va_put (D := D) (ci := 3) (v := .int (iI 0)) (ty := .int) (C := RX4) (T := TX4) (N := 9) hx hb hts (fun w hw => List.mem_cons_of_mem _ (inGX4 w hw)) tyX4 tyX4_ok nmX4 hown hK hP hD hS 0 rfl rfl 0 (by decide) (hts (.fieldLink RX4 9 "SpelledTones$Piece" "signature" "I") (List.mem_cons_of_mem _ (gtm 82 (by decide +kernel) (by decide +kernel)))) (fun _ h9 => h9) rfl (by decide +kernel) rfl rfl (Nat.le_of_ble_eq_true rfl) dX4_init_6 (fun H locs hP hD hS => ?_)
  have hP : va_P D vwCl [(h0, .inr (3, [.int (iI 0), .int (iI 0), .int (iI 0), .null, .null, .null, .null, .null, .null]))] H := hP
  have hD : va_D A [(h0, .inr (3, [.int (iI 0), .int (iI 0), .int (iI 0), .null, .null, .null, .null, .null, .null]))] := hD
  refine lv_aload_n hx hb dX4_init_9 rfl (lv_at hl 0 rfl) ?_
  refine lv_iconst (v := iI 0) hx hb dX4_init_10 (by decide +kernel) ?_
  refine va_put (D := D) (ci := 3) (v := .int (iI 0)) (ty := .int) (C := RX4) (T := TX4) (N := 9) hx hb hts (fun w hw => List.mem_cons_of_mem _ (inGX4 w hw)) tyX4 tyX4_ok nmX4 hown hK hP hD hS 0 rfl rfl 1 (by decide) (hts (.fieldLink RX4 15 "SpelledTones$Piece" "chords" "I") (List.mem_cons_of_mem _ (gtm 87 (by decide +kernel) (by decide +kernel)))) (fun _ h9 => h9) rfl (by decide +kernel) rfl rfl (Nat.le_of_ble_eq_true rfl) dX4_init_11 (fun H locs hP hD hS => ?_)
  have hP : va_P D vwCl [(h0, .inr (3, [.int (iI 0), .int (iI 0), .int (iI 0), .null, .null, .null, .null, .null, .null]))] H := hP
  have hD : va_D A [(h0, .inr (3, [.int (iI 0), .int (iI 0), .int (iI 0), .null, .null, .null, .null, .null, .null]))] := hD
  refine lv_aload_n hx hb dX4_init_14 rfl (lv_at hl 0 rfl) ?_
  refine lv_iconst (v := iI 0) hx hb dX4_init_15 (by decide +kernel) ?_
  refine va_put (D := D) (ci := 3) (v := .int (iI 0)) (ty := .int) (C := RX4) (T := TX4) (N := 9) hx hb hts (fun w hw => List.mem_cons_of_mem _ (inGX4 w hw)) tyX4 tyX4_ok nmX4 hown hK hP hD hS 0 rfl rfl 2 (by decide) (hts (.fieldLink RX4 18 "SpelledTones$Piece" "notes" "I") (List.mem_cons_of_mem _ (gtm 91 (by decide +kernel) (by decide +kernel)))) (fun _ h9 => h9) rfl (by decide +kernel) rfl rfl (Nat.le_of_ble_eq_true rfl) dX4_init_16 (fun H locs hP hD hS => ?_)
  have hP : va_P D vwCl [(h0, .inr (3, [.int (iI 0), .int (iI 0), .int (iI 0), .null, .null, .null, .null, .null, .null]))] H := hP
  have hD : va_D A [(h0, .inr (3, [.int (iI 0), .int (iI 0), .int (iI 0), .null, .null, .null, .null, .null, .null]))] := hD
  refine lv_aload_n hx hb dX4_init_19 rfl (lv_at hl 0 rfl) ?_
  refine lv_bipush (v := iI 10) hx hb dX4_init_20 (by decide +kernel) ?_
  refine nw_arr (cA0 := dT 0) (atype := .int) (ty := .int) (N' := 10) (a0 := (10, .inl (fun _ => iI 0))) hx hb (hts (.arrayClass .int) (List.mem_cons_of_mem _ (gtm 36 (by decide +kernel) (by decide +kernel)))) rfl hK hP hD hS hA (ha_i 10) (by decide +kernel) (by decide +kernel) (Nat.le_of_ble_eq_true rfl) (Nat.le_of_ble_eq_true rfl) (Nat.le_of_ble_eq_true rfl) dX4_init_22 0 rfl (fun _ => Iff.rfl) (fun q1 H hP hD hS => ?_)
  have hP : va_P D vwCl [(h0, .inr (3, [.int (iI 0), .int (iI 0), .int (iI 0), .null, .null, .null, .null, .null, .null])), (q1, zi dT 10)] H := hP
  have hD : va_D A [(h0, .inr (3, [.int (iI 0), .int (iI 0), .int (iI 0), .null, .null, .null, .null, .null, .null])), (q1, zi dT 10)] := hD
  refine va_putF (D := D) (ci := 3) (v := .ref q1) (ty := (.array .int)) (C := RX4) (T := TX4) (N := 9) hx hb hts (fun w hw => List.mem_cons_of_mem _ (inGX4 w hw)) tyX4 tyX4_ok nmX4 hown hK hP hD hS 0 rfl rfl 3 (by decide) (hts (.fieldLink RX4 21 "SpelledTones$Piece" "kinds" "[I") (List.mem_cons_of_mem _ (gtm 94 (by decide +kernel) (by decide +kernel)))) (fun _ h9 => h9) rfl hin rfl (by decide +kernel) rfl rfl (Nat.le_of_ble_eq_true rfl) dX4_init_24 (fun H locs hP hD hS => ?_)
  have hP : va_P D vwCl [(h0, .inr (3, [.int (iI 0), .int (iI 0), .int (iI 0), .ref q1, .null, .null, .null, .null, .null])), (q1, zi dT 10)] H := hP
  have hD : va_D A [(h0, .inr (3, [.int (iI 0), .int (iI 0), .int (iI 0), .ref q1, .null, .null, .null, .null, .null])), (q1, zi dT 10)] := hD
  refine lv_aload_n hx hb dX4_init_27 rfl (lv_at hl 0 rfl) ?_
  refine lv_bipush (v := iI 10) hx hb dX4_init_28 (by decide +kernel) ?_
  refine nw_arr (cA0 := dT 0) (atype := .int) (ty := .int) (N' := 10) (a0 := (10, .inl (fun _ => iI 0))) hx hb (hts (.arrayClass .int) (List.mem_cons_of_mem _ (gtm 36 (by decide +kernel) (by decide +kernel)))) rfl hK hP hD hS hA (ha_i 10) (by decide +kernel) (by decide +kernel) (Nat.le_of_ble_eq_true rfl) (Nat.le_of_ble_eq_true rfl) (Nat.le_of_ble_eq_true rfl) dX4_init_30 0 rfl (fun _ => Iff.rfl) (fun q2 H hP hD hS => ?_)
  have hP : va_P D vwCl [(h0, .inr (3, [.int (iI 0), .int (iI 0), .int (iI 0), .ref q1, .null, .null, .null, .null, .null])), (q1, zi dT 10), (q2, zi dT 10)] H := hP
  have hD : va_D A [(h0, .inr (3, [.int (iI 0), .int (iI 0), .int (iI 0), .ref q1, .null, .null, .null, .null, .null])), (q1, zi dT 10), (q2, zi dT 10)] := hD
  refine va_putF (D := D) (ci := 3) (v := .ref q2) (ty := (.array .int)) (C := RX4) (T := TX4) (N := 9) hx hb hts (fun w hw => List.mem_cons_of_mem _ (inGX4 w hw)) tyX4 tyX4_ok nmX4 hown hK hP hD hS 0 rfl rfl 4 (by decide) (hts (.fieldLink RX4 25 "SpelledTones$Piece" "bars" "[I") (List.mem_cons_of_mem _ (gtm 97 (by decide +kernel) (by decide +kernel)))) (fun _ h9 => h9) rfl hin rfl (by decide +kernel) rfl rfl (Nat.le_of_ble_eq_true rfl) dX4_init_32 (fun H locs hP hD hS => ?_)
  have hP : va_P D vwCl [(h0, .inr (3, [.int (iI 0), .int (iI 0), .int (iI 0), .ref q1, .ref q2, .null, .null, .null, .null])), (q1, zi dT 10), (q2, zi dT 10)] H := hP
  have hD : va_D A [(h0, .inr (3, [.int (iI 0), .int (iI 0), .int (iI 0), .ref q1, .ref q2, .null, .null, .null, .null])), (q1, zi dT 10), (q2, zi dT 10)] := hD
  refine lv_aload_n hx hb dX4_init_35 rfl (lv_at hl 0 rfl) ?_
  refine lv_bipush (v := iI 10) hx hb dX4_init_36 (by decide +kernel) ?_
  refine nw_arr (cA0 := dT 0) (atype := .int) (ty := .int) (N' := 10) (a0 := (10, .inl (fun _ => iI 0))) hx hb (hts (.arrayClass .int) (List.mem_cons_of_mem _ (gtm 36 (by decide +kernel) (by decide +kernel)))) rfl hK hP hD hS hA (ha_i 10) (by decide +kernel) (by decide +kernel) (Nat.le_of_ble_eq_true rfl) (Nat.le_of_ble_eq_true rfl) (Nat.le_of_ble_eq_true rfl) dX4_init_38 0 rfl (fun _ => Iff.rfl) (fun q3 H hP hD hS => ?_)
  have hP : va_P D vwCl [(h0, .inr (3, [.int (iI 0), .int (iI 0), .int (iI 0), .ref q1, .ref q2, .null, .null, .null, .null])), (q1, zi dT 10), (q2, zi dT 10), (q3, zi dT 10)] H := hP
  have hD : va_D A [(h0, .inr (3, [.int (iI 0), .int (iI 0), .int (iI 0), .ref q1, .ref q2, .null, .null, .null, .null])), (q1, zi dT 10), (q2, zi dT 10), (q3, zi dT 10)] := hD
  refine va_putF (D := D) (ci := 3) (v := .ref q3) (ty := (.array .int)) (C := RX4) (T := TX4) (N := 9) hx hb hts (fun w hw => List.mem_cons_of_mem _ (inGX4 w hw)) tyX4 tyX4_ok nmX4 hown hK hP hD hS 0 rfl rfl 5 (by decide) (hts (.fieldLink RX4 28 "SpelledTones$Piece" "phrases" "[I") (List.mem_cons_of_mem _ (gtm 100 (by decide +kernel) (by decide +kernel)))) (fun _ h9 => h9) rfl hin rfl (by decide +kernel) rfl rfl (Nat.le_of_ble_eq_true rfl) dX4_init_40 (fun H locs hP hD hS => ?_)
  have hP : va_P D vwCl [(h0, .inr (3, [.int (iI 0), .int (iI 0), .int (iI 0), .ref q1, .ref q2, .ref q3, .null, .null, .null])), (q1, zi dT 10), (q2, zi dT 10), (q3, zi dT 10)] H := hP
  have hD : va_D A [(h0, .inr (3, [.int (iI 0), .int (iI 0), .int (iI 0), .ref q1, .ref q2, .ref q3, .null, .null, .null])), (q1, zi dT 10), (q2, zi dT 10), (q3, zi dT 10)] := hD
  refine lv_aload_n hx hb dX4_init_43 rfl (lv_at hl 0 rfl) ?_
  refine lv_bipush (v := iI 11) hx hb dX4_init_44 (by decide +kernel) ?_
  refine nw_arr (cA0 := dT 0) (atype := .int) (ty := .int) (N' := 11) (a0 := (11, .inl (fun _ => iI 0))) hx hb (hts (.arrayClass .int) (List.mem_cons_of_mem _ (gtm 36 (by decide +kernel) (by decide +kernel)))) rfl hK hP hD hS hA (ha_i 11) (by decide +kernel) (by decide +kernel) (Nat.le_of_ble_eq_true rfl) (Nat.le_of_ble_eq_true rfl) (Nat.le_of_ble_eq_true rfl) dX4_init_46 0 rfl (fun _ => Iff.rfl) (fun q4 H hP hD hS => ?_)
  have hP : va_P D vwCl [(h0, .inr (3, [.int (iI 0), .int (iI 0), .int (iI 0), .ref q1, .ref q2, .ref q3, .null, .null, .null])), (q1, zi dT 10), (q2, zi dT 10), (q3, zi dT 10), (q4, zi dT 11)] H := hP
  have hD : va_D A [(h0, .inr (3, [.int (iI 0), .int (iI 0), .int (iI 0), .ref q1, .ref q2, .ref q3, .null, .null, .null])), (q1, zi dT 10), (q2, zi dT 10), (q3, zi dT 10), (q4, zi dT 11)] := hD
  refine va_putF (D := D) (ci := 3) (v := .ref q4) (ty := (.array .int)) (C := RX4) (T := TX4) (N := 9) hx hb hts (fun w hw => List.mem_cons_of_mem _ (inGX4 w hw)) tyX4 tyX4_ok nmX4 hown hK hP hD hS 0 rfl rfl 6 (by decide) (hts (.fieldLink RX4 31 "SpelledTones$Piece" "firsts" "[I") (List.mem_cons_of_mem _ (gtm 103 (by decide +kernel) (by decide +kernel)))) (fun _ h9 => h9) rfl hin rfl (by decide +kernel) rfl rfl (Nat.le_of_ble_eq_true rfl) dX4_init_48 (fun H locs hP hD hS => ?_)
  have hP : va_P D vwCl [(h0, .inr (3, [.int (iI 0), .int (iI 0), .int (iI 0), .ref q1, .ref q2, .ref q3, .ref q4, .null, .null])), (q1, zi dT 10), (q2, zi dT 10), (q3, zi dT 10), (q4, zi dT 11)] H := hP
  have hD : va_D A [(h0, .inr (3, [.int (iI 0), .int (iI 0), .int (iI 0), .ref q1, .ref q2, .ref q3, .ref q4, .null, .null])), (q1, zi dT 10), (q2, zi dT 10), (q3, zi dT 10), (q4, zi dT 11)] := hD
  refine lv_aload_n hx hb dX4_init_51 rfl (lv_at hl 0 rfl) ?_
  refine lv_bipush (v := iI 40) hx hb dX4_init_52 (by decide +kernel) ?_
  refine nw_arr (cA0 := dT 0) (atype := .int) (ty := .int) (N' := 40) (a0 := (40, .inl (fun _ => iI 0))) hx hb (hts (.arrayClass .int) (List.mem_cons_of_mem _ (gtm 36 (by decide +kernel) (by decide +kernel)))) rfl hK hP hD hS hA (ha_i 40) (by decide +kernel) (by decide +kernel) (Nat.le_of_ble_eq_true rfl) (Nat.le_of_ble_eq_true rfl) (Nat.le_of_ble_eq_true rfl) dX4_init_54 0 rfl (fun _ => Iff.rfl) (fun q5 H hP hD hS => ?_)
  have hP : va_P D vwCl [(h0, .inr (3, [.int (iI 0), .int (iI 0), .int (iI 0), .ref q1, .ref q2, .ref q3, .ref q4, .null, .null])), (q1, zi dT 10), (q2, zi dT 10), (q3, zi dT 10), (q4, zi dT 11), (q5, zi dT 40)] H := hP
  have hD : va_D A [(h0, .inr (3, [.int (iI 0), .int (iI 0), .int (iI 0), .ref q1, .ref q2, .ref q3, .ref q4, .null, .null])), (q1, zi dT 10), (q2, zi dT 10), (q3, zi dT 10), (q4, zi dT 11), (q5, zi dT 40)] := hD
  refine va_putF (D := D) (ci := 3) (v := .ref q5) (ty := (.array .int)) (C := RX4) (T := TX4) (N := 9) hx hb hts (fun w hw => List.mem_cons_of_mem _ (inGX4 w hw)) tyX4 tyX4_ok nmX4 hown hK hP hD hS 0 rfl rfl 7 (by decide) (hts (.fieldLink RX4 34 "SpelledTones$Piece" "keys" "[I") (List.mem_cons_of_mem _ (gtm 106 (by decide +kernel) (by decide +kernel)))) (fun _ h9 => h9) rfl hin rfl (by decide +kernel) rfl rfl (Nat.le_of_ble_eq_true rfl) dX4_init_56 (fun H locs hP hD hS => ?_)
  have hP : va_P D vwCl [(h0, .inr (3, [.int (iI 0), .int (iI 0), .int (iI 0), .ref q1, .ref q2, .ref q3, .ref q4, .ref q5, .null])), (q1, zi dT 10), (q2, zi dT 10), (q3, zi dT 10), (q4, zi dT 11), (q5, zi dT 40)] H := hP
  have hD : va_D A [(h0, .inr (3, [.int (iI 0), .int (iI 0), .int (iI 0), .ref q1, .ref q2, .ref q3, .ref q4, .ref q5, .null])), (q1, zi dT 10), (q2, zi dT 10), (q3, zi dT 10), (q4, zi dT 11), (q5, zi dT 40)] := hD
  refine lv_aload_n hx hb dX4_init_59 rfl (lv_at hl 0 rfl) ?_
  refine lv_bipush (v := iI 40) hx hb dX4_init_60 (by decide +kernel) ?_
  refine nw_arr (cA0 := dT 0) (atype := .int) (ty := .int) (N' := 40) (a0 := (40, .inl (fun _ => iI 0))) hx hb (hts (.arrayClass .int) (List.mem_cons_of_mem _ (gtm 36 (by decide +kernel) (by decide +kernel)))) rfl hK hP hD hS hA (ha_i 40) (by decide +kernel) (by decide +kernel) (Nat.le_of_ble_eq_true rfl) (Nat.le_of_ble_eq_true rfl) (Nat.le_of_ble_eq_true rfl) dX4_init_62 0 rfl (fun _ => Iff.rfl) (fun q6 H hP hD hS => ?_)
  have hP : va_P D vwCl [(h0, .inr (3, [.int (iI 0), .int (iI 0), .int (iI 0), .ref q1, .ref q2, .ref q3, .ref q4, .ref q5, .null])), (q1, zi dT 10), (q2, zi dT 10), (q3, zi dT 10), (q4, zi dT 11), (q5, zi dT 40), (q6, zi dT 40)] H := hP
  have hD : va_D A [(h0, .inr (3, [.int (iI 0), .int (iI 0), .int (iI 0), .ref q1, .ref q2, .ref q3, .ref q4, .ref q5, .null])), (q1, zi dT 10), (q2, zi dT 10), (q3, zi dT 10), (q4, zi dT 11), (q5, zi dT 40), (q6, zi dT 40)] := hD
  refine va_putF (D := D) (ci := 3) (v := .ref q6) (ty := (.array .int)) (C := RX4) (T := TX4) (N := 9) hx hb hts (fun w hw => List.mem_cons_of_mem _ (inGX4 w hw)) tyX4 tyX4_ok nmX4 hown hK hP hD hS 0 rfl rfl 8 (by decide) (hts (.fieldLink RX4 37 "SpelledTones$Piece" "chordOf" "[I") (List.mem_cons_of_mem _ (gtm 110 (by decide +kernel) (by decide +kernel)))) (fun _ h9 => h9) rfl hin rfl (by decide +kernel) rfl rfl (Nat.le_of_ble_eq_true rfl) dX4_init_64 (fun H locs hP hD hS => ?_)
  have hP : va_P D vwCl [(h0, .inr (3, [.int (iI 0), .int (iI 0), .int (iI 0), .ref q1, .ref q2, .ref q3, .ref q4, .ref q5, .ref q6])), (q1, zi dT 10), (q2, zi dT 10), (q3, zi dT 10), (q4, zi dT 11), (q5, zi dT 40), (q6, zi dT 40)] H := hP
  have hD : va_D A [(h0, .inr (3, [.int (iI 0), .int (iI 0), .int (iI 0), .ref q1, .ref q2, .ref q3, .ref q4, .ref q5, .ref q6])), (q1, zi dT 10), (q2, zi dT 10), (q3, zi dT 10), (q4, zi dT 11), (q5, zi dT 40), (q6, zi dT 40)] := hD
  refine W.widen (k := 6) (n := 121) (Nat.le_of_ble_eq_true rfl) (Nat.le_of_ble_eq_true rfl) ?_
  exact W.vret hx hb hr (fun t ht hW => ⟨⟨(), rfl, trivial, q1, q2, q3, q4, q5, q6, by rw [ht]; exact hP, by first | exact hD | (rw [hAe]; exact hD)⟩, by first | exact hS.F ht | (rw [hAe]; exact hS.F ht)⟩) hS.2.2 dX4_init_67
set_option maxHeartbeats 4000000 in
set_option maxRecDepth 100000 in
theorem c_X6_init (l : Launch) (dT : Nat → ClassId) (D : va_G) (h0 : Nat) (sz : Nat) : Met l yX6_init (Cond.code yX6_init cX6_init 1 none :: gtb) ({ frames := 1, cells := 1, slots := 130, locals := 12 }) (va_Pc [.ref h0] (fun U => U.heap.size = sz ∧ va_P D vwCl [(h0, .inr (5, [.null, .int (iI 0), .int (iI 0), .int (iI 0), .int (iI 0), .int (iI 0), .int (iI 0), .int (iI 0), .int (iI 0), .int (iI 0)]))] U.heap ∧ va_K D vwCl (tysD dT) U ∧ va_D (fun _ => True) [(h0, .inr (5, [.null, .int (iI 0), .int (iI 0), .int (iI 0), .int (iI 0), .int (iI 0), .int (iI 0), .int (iI 0), .int (iI 0), .int (iI 0)]))])) (va_Qv (fun _ : Unit => True) (fun _ t => ∃ (q1 : Nat), va_P D vwCl [(h0, .inr (5, [.ref q1, .int (iI 0), .int (iI 0), .int (iI 0), .int (iI 0), .int (iI 0), .int (iI 0), .int (iI 0), .int (iI 0), .int (iI 0)])), (q1, zi dT 130)] t.heap ∧ va_D (va_A [(h0, .inr (5, [.null, .int (iI 0), .int (iI 0), .int (iI 0), .int (iI 0), .int (iI 0), .int (iI 0), .int (iI 0), .int (iI 0), .int (iI 0)]))] sz) [(h0, .inr (5, [.ref q1, .int (iI 0), .int (iI 0), .int (iI 0), .int (iI 0), .int (iI 0), .int (iI 0), .int (iI 0), .int (iI 0), .int (iI 0)])), (q1, zi dT 130)]) (va_A [(h0, .inr (5, [.null, .int (iI 0), .int (iI 0), .int (iI 0), .int (iI 0), .int (iI 0), .int (iI 0), .int (iI 0), .int (iI 0), .int (iI 0)]))] sz)) 1 130 (va_A [(h0, .inr (5, [.null, .int (iI 0), .int (iI 0), .int (iI 0), .int (iI 0), .int (iI 0), .int (iI 0), .int (iI 0), .int (iI 0), .int (iI 0)]))] sz) := by
  refine Met.ofW (cc := cX6_init) (maxL := 1) (ret := none) (by decide +kernel) rfl ?_
  intro p e s m args below meth c s₁ B hml hv
  obtain ⟨rfl, hsz, hP, hK, hD0⟩ := hv
  have hx := B.exec
  have hb := B.bytes
  have hr := B.returns
  have hts := atoms_spec (ws := Cond.code yX6_init cX6_init 1 none :: gtb) B.pre
  have hown : s.vm.findClass RX6 = some m.cls := findClass_of_methodNamed B.named
  have hlocks := B.notSynchronized
  have hin : meth.name = "<init>" := (name_of_methodNamed B.named B.method).1
  subst hsz
  have hD := hD0.self (sz := s.heap.size)
  generalize hAe : va_A [(h0, .inr (5, [.null, .int (iI 0), .int (iI 0), .int (iI 0), .int (iI 0), .int (iI 0), .int (iI 0), .int (iI 0), .int (iI 0), .int (iI 0)]))] s.heap.size = A at hD ⊢
  have hA : ∀ q : Nat, s.heap.size ≤ q → A q := fun q h => by rw [← hAe]; exact Or.inr h
  have hS : va_S A s.heap s.heap [] := va_S.rf
  have hP : va_P D vwCl [(h0, .inr (5, [.null, .int (iI 0), .int (iI 0), .int (iI 0), .int (iI 0), .int (iI 0), .int (iI 0), .int (iI 0), .int (iI 0), .int (iI 0)]))] s.heap := hP
  have hl := lv_entry ([.ref h0]) (n := 1) (Nat.le_of_ble_eq_true rfl)
  rw [lg_entry_eq]
  generalize (lg_sl ([.ref h0]) ++ List.replicate (1 - (lg_sl ([.ref h0])).length) Slot.unset).toArray = ls at hl ⊢
  have hl : lv_has ls 1 [(0, .ref h0)] := hl
  refine lv_aload_n hx hb dX6_init_0 rfl (lv_at hl 0 rfl) ?_
  refine W.objInit hx hb hown (hts (.methodLink RX6 3 objectInit) (List.mem_cons_of_mem _ (gtm 42 (by decide +kernel) (by decide +kernel)))) (hts (.instanceMethod objectInit) (List.mem_cons_of_mem _ (gtm 18 (by decide +kernel) (by decide +kernel)))) (hts (.code objectInit ⟨#[0xb1]⟩ 1 none) (List.mem_cons_of_mem _ (gtm 19 (by decide +kernel) (by decide +kernel)))) rfl (by rw [hml]; exact hl.1) rfl dX6_init_1 (Nat.le_of_ble_eq_true rfl) (Nat.le_of_ble_eq_true rfl) ?_
  refine W.eq (g2 := F0 m 4 ls []) rfl ?_
  refine lv_aload_n hx hb dX6_init_4 rfl (lv_at hl 0 rfl) ?_
  refine lv_sipush (v := iI 130) hx hb dX6_init_5 (by decide +kernel) ?_
  refine nw_arr (cA0 := dT 0) (atype := .int) (ty := .int) (N' := 130) (a0 := (130, .inl (fun _ => iI 0))) hx hb (hts (.arrayClass .int) (List.mem_cons_of_mem _ (gtm 36 (by decide +kernel) (by decide +kernel)))) rfl hK hP hD hS hA (ha_i 130) (by decide +kernel) (by decide +kernel) (Nat.le_of_ble_eq_true rfl) (Nat.le_of_ble_eq_true rfl) (Nat.le_of_ble_eq_true rfl) dX6_init_8 0 rfl (fun _ => Iff.rfl) (fun q1 H hP hD hS => ?_)
  have hP : va_P D vwCl [(h0, .inr (5, [.null, .int (iI 0), .int (iI 0), .int (iI 0), .int (iI 0), .int (iI 0), .int (iI 0), .int (iI 0), .int (iI 0), .int (iI 0)])), (q1, zi dT 130)] H := hP
  have hD : va_D A [(h0, .inr (5, [.null, .int (iI 0), .int (iI 0), .int (iI 0), .int (iI 0), .int (iI 0), .int (iI 0), .int (iI 0), .int (iI 0), .int (iI 0)])), (q1, zi dT 130)] := hD
  refine va_putF (D := D) (ci := 5) (v := .ref q1) (ty := (.array .int)) (C := RX6) (T := TX6) (N := 10) hx hb hts (fun w hw => List.mem_cons_of_mem _ (inGX6 w hw)) tyX6 tyX6_ok nmX6 hown hK hP hD hS 0 rfl rfl 0 (by decide) (hts (.fieldLink RX6 11 "SpelledTones$Tape" "bytes" "[I") (List.mem_cons_of_mem _ (gtm 43 (by decide +kernel) (by decide +kernel)))) (fun _ h9 => h9) rfl hin rfl (by decide +kernel) rfl rfl (Nat.le_of_ble_eq_true rfl) dX6_init_10 (fun H locs hP hD hS => ?_)
  have hP : va_P D vwCl [(h0, .inr (5, [.ref q1, .int (iI 0), .int (iI 0), .int (iI 0), .int (iI 0), .int (iI 0), .int (iI 0), .int (iI 0), .int (iI 0), .int (iI 0)])), (q1, zi dT 130)] H := hP
  have hD : va_D A [(h0, .inr (5, [.ref q1, .int (iI 0), .int (iI 0), .int (iI 0), .int (iI 0), .int (iI 0), .int (iI 0), .int (iI 0), .int (iI 0), .int (iI 0)])), (q1, zi dT 130)] := hD
  refine lv_aload_n hx hb dX6_init_13 rfl (lv_at hl 0 rfl) ?_
  refine lv_iconst (v := iI 0) hx hb dX6_init_14 (by decide +kernel) ?_
  refine va_put (D := D) (ci := 5) (v := .int (iI 0)) (ty := .int) (C := RX6) (T := TX6) (N := 10) hx hb hts (fun w hw => List.mem_cons_of_mem _ (inGX6 w hw)) tyX6 tyX6_ok nmX6 hown hK hP hD hS 0 rfl rfl 1 (by decide) (hts (.fieldLink RX6 15 "SpelledTones$Tape" "length" "I") (List.mem_cons_of_mem _ (gtm 44 (by decide +kernel) (by decide +kernel)))) (fun _ h9 => h9) rfl (by decide +kernel) rfl rfl (Nat.le_of_ble_eq_true rfl) dX6_init_15 (fun H locs hP hD hS => ?_)
  have hP : va_P D vwCl [(h0, .inr (5, [.ref q1, .int (iI 0), .int (iI 0), .int (iI 0), .int (iI 0), .int (iI 0), .int (iI 0), .int (iI 0), .int (iI 0), .int (iI 0)])), (q1, zi dT 130)] H := hP
  have hD : va_D A [(h0, .inr (5, [.ref q1, .int (iI 0), .int (iI 0), .int (iI 0), .int (iI 0), .int (iI 0), .int (iI 0), .int (iI 0), .int (iI 0), .int (iI 0)])), (q1, zi dT 130)] := hD
  refine lv_aload_n hx hb dX6_init_18 rfl (lv_at hl 0 rfl) ?_
  refine lv_iconst (v := iI 0) hx hb dX6_init_19 (by decide +kernel) ?_
  refine va_put (D := D) (ci := 5) (v := .int (iI 0)) (ty := .int) (C := RX6) (T := TX6) (N := 10) hx hb hts (fun w hw => List.mem_cons_of_mem _ (inGX6 w hw)) tyX6 tyX6_ok nmX6 hown hK hP hD hS 0 rfl rfl 2 (by decide) (hts (.fieldLink RX6 19 "SpelledTones$Tape" "at" "I") (List.mem_cons_of_mem _ (gtm 46 (by decide +kernel) (by decide +kernel)))) (fun _ h9 => h9) rfl (by decide +kernel) rfl rfl (Nat.le_of_ble_eq_true rfl) dX6_init_20 (fun H locs hP hD hS => ?_)
  have hP : va_P D vwCl [(h0, .inr (5, [.ref q1, .int (iI 0), .int (iI 0), .int (iI 0), .int (iI 0), .int (iI 0), .int (iI 0), .int (iI 0), .int (iI 0), .int (iI 0)])), (q1, zi dT 130)] H := hP
  have hD : va_D A [(h0, .inr (5, [.ref q1, .int (iI 0), .int (iI 0), .int (iI 0), .int (iI 0), .int (iI 0), .int (iI 0), .int (iI 0), .int (iI 0), .int (iI 0)])), (q1, zi dT 130)] := hD
  refine W.widen (k := 1) (n := 130) (Nat.le_of_ble_eq_true rfl) (Nat.le_of_ble_eq_true rfl) ?_
  exact W.vret hx hb hr (fun t ht hW => ⟨⟨(), rfl, trivial, q1, by rw [ht]; exact hP, by first | exact hD | (rw [hAe]; exact hD)⟩, by first | exact hS.F ht | (rw [hAe]; exact hS.F ht)⟩) hS.2.2 dX6_init_23
set_option maxHeartbeats 4000000 in
set_option maxRecDepth 100000 in
theorem c_X5_init (l : Launch) (dT : Nat → ClassId) (D : va_G) (h0 : Nat) (sz : Nat) : Met l yX5_init (Cond.code yX5_init cX5_init 2 none :: gtb) ({ frames := 1, cells := 3, slots := 336, locals := 12 }) (va_Pc [.ref h0] (fun U => U.heap.size = sz ∧ va_P D vwCl [(h0, .inr (4, [.null, .null, .null]))] U.heap ∧ va_K D vwCl (tysD dT) U ∧ va_D (fun _ => True) [(h0, .inr (4, [.null, .null, .null]))])) (va_Qv (fun _ : Unit => True) (fun _ t => ∃ (q1 q2 q3 : Nat), va_P D vwCl [(h0, .inr (4, [.ref q1, .ref q2, .ref q3])), (q1, zi dT 320), (q2, zi dT 8), (q3, .inl (dT 0, 8, .inl (fun j => iI (m1Z 8 j))))] t.heap ∧ va_D (va_A [(h0, .inr (4, [.null, .null, .null]))] sz) [(h0, .inr (4, [.ref q1, .ref q2, .ref q3])), (q1, zi dT 320), (q2, zi dT 8), (q3, .inl (dT 0, 8, .inl (fun j => iI (m1Z 8 j))))]) (va_A [(h0, .inr (4, [.null, .null, .null]))] sz)) 3 336 (va_A [(h0, .inr (4, [.null, .null, .null]))] sz) := by
  refine Met.ofW (cc := cX5_init) (maxL := 2) (ret := none) (by decide +kernel) rfl ?_
  intro p e s m args below meth c s₁ B hml hv
  obtain ⟨rfl, hsz, hP, hK, hD0⟩ := hv
  have hx := B.exec
  have hb := B.bytes
  have hr := B.returns
  have hts := atoms_spec (ws := Cond.code yX5_init cX5_init 2 none :: gtb) B.pre
  have hown : s.vm.findClass RX5 = some m.cls := findClass_of_methodNamed B.named
  have hlocks := B.notSynchronized
  have hin : meth.name = "<init>" := (name_of_methodNamed B.named B.method).1
  subst hsz
  have hD := hD0.self (sz := s.heap.size)
  generalize hAe : va_A [(h0, .inr (4, [.null, .null, .null]))] s.heap.size = A at hD ⊢
  have hA : ∀ q : Nat, s.heap.size ≤ q → A q := fun q h => by rw [← hAe]; exact Or.inr h
  have hS : va_S A s.heap s.heap [] := va_S.rf
  have hP : va_P D vwCl [(h0, .inr (4, [.null, .null, .null]))] s.heap := hP
  have hl := lv_entry ([.ref h0]) (n := 2) (Nat.le_of_ble_eq_true rfl)
  rw [lg_entry_eq]
  generalize (lg_sl ([.ref h0]) ++ List.replicate (2 - (lg_sl ([.ref h0])).length) Slot.unset).toArray = ls at hl ⊢
  have hl : lv_has ls 2 [(0, .ref h0)] := hl
  refine lv_aload_n hx hb dX5_init_0 rfl (lv_at hl 0 rfl) ?_
  refine W.objInit hx hb hown (hts (.methodLink RX5 1 objectInit) (List.mem_cons_of_mem _ (gtm 25 (by decide +kernel) (by decide +kernel)))) (hts (.instanceMethod objectInit) (List.mem_cons_of_mem _ (gtm 18 (by decide +kernel) (by decide +kernel)))) (hts (.code objectInit ⟨#[0xb1]⟩ 1 none) (List.mem_cons_of_mem _ (gtm 19 (by decide +kernel) (by decide +kernel)))) rfl (by rw [hml]; exact hl.1) rfl dX5_init_1 (Nat.le_of_ble_eq_true rfl) (Nat.le_of_ble_eq_true rfl) ?_
  refine W.eq (g2 := F0 m 4 ls []) rfl ?_
  refine lv_aload_n hx hb dX5_init_4 rfl (lv_at hl 0 rfl) ?_
  refine lv_sipush (v := iI 320) hx hb dX5_init_5 (by decide +kernel) ?_
  refine nw_arr (cA0 := dT 0) (atype := .int) (ty := .int) (N' := 320) (a0 := (320, .inl (fun _ => iI 0))) hx hb (hts (.arrayClass .int) (List.mem_cons_of_mem _ (gtm 36 (by decide +kernel) (by decide +kernel)))) rfl hK hP hD hS hA (ha_i 320) (by decide +kernel) (by decide +kernel) (Nat.le_of_ble_eq_true rfl) (Nat.le_of_ble_eq_true rfl) (Nat.le_of_ble_eq_true rfl) dX5_init_8 0 rfl (fun _ => Iff.rfl) (fun q1 H hP hD hS => ?_)
  have hP : va_P D vwCl [(h0, .inr (4, [.null, .null, .null])), (q1, zi dT 320)] H := hP
  have hD : va_D A [(h0, .inr (4, [.null, .null, .null])), (q1, zi dT 320)] := hD
  refine va_putF (D := D) (ci := 4) (v := .ref q1) (ty := (.array .int)) (C := RX5) (T := TX5) (N := 3) hx hb hts (fun w hw => List.mem_cons_of_mem _ (inGX5 w hw)) tyX5 tyX5_ok nmX5 hown hK hP hD hS 0 rfl rfl 0 (by decide) (hts (.fieldLink RX5 9 "SpelledTones$Rows" "items" "[I") (List.mem_cons_of_mem _ (gtm 26 (by decide +kernel) (by decide +kernel)))) (fun _ h9 => h9) rfl hin rfl (by decide +kernel) rfl rfl (Nat.le_of_ble_eq_true rfl) dX5_init_10 (fun H locs hP hD hS => ?_)
  have hP : va_P D vwCl [(h0, .inr (4, [.ref q1, .null, .null])), (q1, zi dT 320)] H := hP
  have hD : va_D A [(h0, .inr (4, [.ref q1, .null, .null])), (q1, zi dT 320)] := hD
  refine lv_aload_n hx hb dX5_init_13 rfl (lv_at hl 0 rfl) ?_
  refine lv_bipush (v := iI 8) hx hb dX5_init_14 (by decide +kernel) ?_
  refine nw_arr (cA0 := dT 0) (atype := .int) (ty := .int) (N' := 8) (a0 := (8, .inl (fun _ => iI 0))) hx hb (hts (.arrayClass .int) (List.mem_cons_of_mem _ (gtm 36 (by decide +kernel) (by decide +kernel)))) rfl hK hP hD hS hA (ha_i 8) (by decide +kernel) (by decide +kernel) (Nat.le_of_ble_eq_true rfl) (Nat.le_of_ble_eq_true rfl) (Nat.le_of_ble_eq_true rfl) dX5_init_16 0 rfl (fun _ => Iff.rfl) (fun q2 H hP hD hS => ?_)
  have hP : va_P D vwCl [(h0, .inr (4, [.ref q1, .null, .null])), (q1, zi dT 320), (q2, zi dT 8)] H := hP
  have hD : va_D A [(h0, .inr (4, [.ref q1, .null, .null])), (q1, zi dT 320), (q2, zi dT 8)] := hD
  refine va_putF (D := D) (ci := 4) (v := .ref q2) (ty := (.array .int)) (C := RX5) (T := TX5) (N := 3) hx hb hts (fun w hw => List.mem_cons_of_mem _ (inGX5 w hw)) tyX5 tyX5_ok nmX5 hown hK hP hD hS 0 rfl rfl 1 (by decide) (hts (.fieldLink RX5 13 "SpelledTones$Rows" "lanes" "[I") (List.mem_cons_of_mem _ (gtm 27 (by decide +kernel) (by decide +kernel)))) (fun _ h9 => h9) rfl hin rfl (by decide +kernel) rfl rfl (Nat.le_of_ble_eq_true rfl) dX5_init_18 (fun H locs hP hD hS => ?_)
  have hP : va_P D vwCl [(h0, .inr (4, [.ref q1, .ref q2, .null])), (q1, zi dT 320), (q2, zi dT 8)] H := hP
  have hD : va_D A [(h0, .inr (4, [.ref q1, .ref q2, .null])), (q1, zi dT 320), (q2, zi dT 8)] := hD
  refine lv_aload_n hx hb dX5_init_21 rfl (lv_at hl 0 rfl) ?_
  refine lv_bipush (v := iI 8) hx hb dX5_init_22 (by decide +kernel) ?_
  refine nw_arr (cA0 := dT 0) (atype := .int) (ty := .int) (N' := 8) (a0 := (8, .inl (fun _ => iI 0))) hx hb (hts (.arrayClass .int) (List.mem_cons_of_mem _ (gtm 36 (by decide +kernel) (by decide +kernel)))) rfl hK hP hD hS hA (ha_i 8) (by decide +kernel) (by decide +kernel) (Nat.le_of_ble_eq_true rfl) (Nat.le_of_ble_eq_true rfl) (Nat.le_of_ble_eq_true rfl) dX5_init_24 0 rfl (fun _ => Iff.rfl) (fun q3 H hP hD hS => ?_)
  have hP : va_P D vwCl [(h0, .inr (4, [.ref q1, .ref q2, .null])), (q1, zi dT 320), (q2, zi dT 8), (q3, zi dT 8)] H := hP
  have hD : va_D A [(h0, .inr (4, [.ref q1, .ref q2, .null])), (q1, zi dT 320), (q2, zi dT 8), (q3, zi dT 8)] := hD
  refine va_putF (D := D) (ci := 4) (v := .ref q3) (ty := (.array .int)) (C := RX5) (T := TX5) (N := 3) hx hb hts (fun w hw => List.mem_cons_of_mem _ (inGX5 w hw)) tyX5 tyX5_ok nmX5 hown hK hP hD hS 0 rfl rfl 2 (by decide) (hts (.fieldLink RX5 16 "SpelledTones$Rows" "sizes" "[I") (List.mem_cons_of_mem _ (gtm 28 (by decide +kernel) (by decide +kernel)))) (fun _ h9 => h9) rfl hin rfl (by decide +kernel) rfl rfl (Nat.le_of_ble_eq_true rfl) dX5_init_26 (fun H locs hP hD hS => ?_)
  have hP : va_P D vwCl [(h0, .inr (4, [.ref q1, .ref q2, .ref q3])), (q1, zi dT 320), (q2, zi dT 8), (q3, zi dT 8)] H := hP
  have hD : va_D A [(h0, .inr (4, [.ref q1, .ref q2, .ref q3])), (q1, zi dT 320), (q2, zi dT 8), (q3, zi dT 8)] := hD
  have loop : ∀ (d i : Nat), i + d = 8 → ∀ (H : Heap) (locs : List Loc) (ls : Array Slot), va_P D vwCl [(h0, .inr (4, [.ref q1, .ref q2, .ref q3])), (q1, zi dT 320), (q2, zi dT 8), (q3, .inl (dT 0, 8, .inl (fun j => iI (m1Z i j))))] H → va_D A [(h0, .inr (4, [.ref q1, .ref q2, .ref q3])), (q1, zi dT 320), (q2, zi dT 8), (q3, .inl (dT 0, 8, .inl (fun j => iI (m1Z i j))))] → va_S A s.heap H locs → lv_has ls 2 [(1, .int (iI (i : Int))), (0, .ref h0)] → W p l e ({ frames := 1, cells := 3, slots := 336, locals := 12 } : Room) s m #[Value.ref h0] below meth c H locs 3 336 (MQ below (va_Qv (fun _ : Unit => True) (fun _ t => ∃ (q1 q2 q3 : Nat), va_P D vwCl [(h0, .inr (4, [.ref q1, .ref q2, .ref q3])), (q1, zi dT 320), (q2, zi dT 8), (q3, .inl (dT 0, 8, .inl (fun j => iI (m1Z 8 j))))] t.heap ∧ va_D A [(h0, .inr (4, [.ref q1, .ref q2, .ref q3])), (q1, zi dT 320), (q2, zi dT 8), (q3, .inl (dT 0, 8, .inl (fun j => iI (m1Z 8 j))))]) A) #[Value.ref h0] s 3 336 A) (F0 m 31 ls []) := by
    intro d
    induction d with
    | zero =>
      intro i hi H locs ls hP hD hS hl
      have hi : i = 8 := by omega
      subst hi
      refine lv_iload_n hx hb dX5_init_31 rfl (lv_at hl 0 rfl) ?_
      refine lv_bipush (v := iI 8) hx hb dX5_init_32 (by decide +kernel) ?_
      refine lv_icmp_ge (tgt := 50) hx hb dX5_init_34 (by decide) (fun _ => ?_) (fun z => absurd (by decide +kernel) z)
      refine W.widen (k := 3) (n := 336) (Nat.le_of_ble_eq_true rfl) (Nat.le_of_ble_eq_true rfl) ?_
      exact W.vret hx hb hr (fun t ht hW => ⟨⟨(), rfl, trivial, q1, q2, q3, by rw [ht]; exact hP, by first | exact hD | (rw [hAe]; exact hD)⟩, by first | exact hS.F ht | (rw [hAe]; exact hS.F ht)⟩) hS.2.2 dX5_init_50
    | succ d ih =>
      intro i hi H locs ls hP hD hS hl
      refine lv_iload_n hx hb dX5_init_31 rfl (lv_at hl 0 rfl) ?_
      refine lv_bipush (v := iI 8) hx hb dX5_init_32 (by decide +kernel) ?_
      have hlt : iI (i : Int) < iI 8 := (iI_lt ⟨by omega, by omega⟩ ⟨by decide, by decide⟩).mpr (by omega)
      refine lv_icmp_ge (tgt := 50) hx hb dX5_init_34 (by decide) (fun z => ?_) (fun _ => ?_)
      · exact absurd z (by first | exact Int32.not_le.mpr hlt | exact fun z => absurd hlt (Int32.not_lt.mpr z))
      refine lv_aload_n hx hb dX5_init_37 rfl (lv_at hl 1 rfl) ?_
      refine va_get (D := D) (ci := 4) (v := .ref q3) (C := RX5) (T := TX5) (N := 3) hx hb hts (fun w hw => List.mem_cons_of_mem _ (inGX5 w hw)) hown hK hP 0 rfl rfl 2 (by decide) (hts (.fieldLink RX5 16 "SpelledTones$Rows" "sizes" "[I") (List.mem_cons_of_mem _ (gtm 28 (by decide +kernel) (by decide +kernel)))) (fun _ h9 => h9) rfl dX5_init_38 ?_
      refine lv_iload_n hx hb dX5_init_41 rfl (lv_at hl 0 rfl) ?_
      refine lv_iconst (v := iI (-1)) hx hb dX5_init_42 (by decide +kernel) ?_
      obtain ⟨hin1, hin2⟩ := iI_in (i := (i : Int)) (n := 8) (by omega) (by omega) (by decide)
      refine va_iast hx hb hK hP hD hS 3 0 rfl rfl hin1 dX5_init_43 (fun H locs hP hD hS => ?_)
      have ef : upd (fun j => iI (m1Z i j)) (iI (i : Int)).toNatClampNeg (iI (-1)) = fun j => iI (m1Z (i + 1) j) := by
        rw [hin2, Int.toNat_natCast]
        exact m1Z_s i
      rw [ef] at hP hD
      have hP : va_P D vwCl [(h0, .inr (4, [.ref q1, .ref q2, .ref q3])), (q1, zi dT 320), (q2, zi dT 8), (q3, .inl (dT 0, 8, .inl (fun j => iI (m1Z (i + 1) j))))] H := hP
      have hD : va_D A [(h0, .inr (4, [.ref q1, .ref q2, .ref q3])), (q1, zi dT 320), (q2, zi dT 8), (q3, .inl (dT 0, 8, .inl (fun j => iI (m1Z (i + 1) j))))] := hD
      have ev : iI (i : Int) + Int32.ofInt 1 = iI ((i + 1 : Nat) : Int) := by
        rw [Int.natCast_add, iI_add]
        rfl
      refine lv_iinc (v := iI ((i + 1 : Nat) : Int)) (lv' := [(1, .int (iI ((i + 1 : Nat) : Int))), (0, .ref h0)]) hx hb dX5_init_44 hl (k := 0) rfl ev (by decide) rfl (fun ls hl => ?_)
      refine lv_goto (tgt := 31) hx hb dX5_init_47 (by decide) ?_
      exact ih (i + 1) (by omega) H _ ls hP hD hS hl
  refine lv_iconst (v := iI 0) hx hb dX5_init_29 (by decide +kernel) ?_
  refine lv_istore_n (lv' := [(1, .int (iI 0)), (0, .ref h0)]) hx hb dX5_init_30 rfl hl (by decide) rfl (fun ls hl => ?_)
  have e0 : (fun _ : Nat => iI 0) = fun j => iI (m1Z 0 j) := by
    funext j
    rfl
  have hP : va_P D vwCl [(h0, .inr (4, [.ref q1, .ref q2, .ref q3])), (q1, zi dT 320), (q2, zi dT 8), (q3, .inl (dT 0, 8, .inl (fun j => iI (m1Z 0 j))))] H := by
    rw [← e0]
    exact hP
  have hD : va_D A [(h0, .inr (4, [.ref q1, .ref q2, .ref q3])), (q1, zi dT 320), (q2, zi dT 8), (q3, .inl (dT 0, 8, .inl (fun j => iI (m1Z 0 j))))] := by
    rw [← e0]
    exact hD
  exact loop 8 0 (by omega) H _ ls hP hD hS hl
