/-! a method of any class that the machine has no row of its own for -/
theorem am_ofF {l : Launch} {n : Nat} {y : MethodName} {cc : ByteArray} {nL : Nat} {rt : Option FieldType} {a : List AV} {σ : HP} {Q : Option AV → HP → Prop} (rk : Nat) (cp : Nat → Option CE) (mT : Nat → Option (Nat × Bool × MSpec)) (hy : plainFor y = true) (hrk : rkOK rk rt) (hw : wid a ≤ nL) (hcp : ∀ i e, cp i = some e → cpV y.cls i e) (hmT : ∀ i e, mT i = some e → mV l (rmOf n) y.cls i e)
    (h : ∀ K : KT, SND cc cp mT roS rk Q K → K 0 (entL nL a) [] σ) : AM l n y cc nL rt a σ Q := by
  intro G
  refine va_MetF (cc := cc) (maxL := nL) (ret := rt) hy rfl ?_
  intro p e s m args below meth c s₁ B hml hv
  obtain ⟨rfl, hP, hK⟩ := hv
  have hx := B.exec
  have hb := B.bytes
  have hr := B.returns
  have hts := atoms_spec (ws := Cond.code y cc nL rt :: gtb) B.pre
  have hown : s.vm.findClass y.cls = some m.cls := findClass_of_methodNamed B.named
  have hlocks := B.notSynchronized
  have C : CX p l (rmOf n) s m ((a.map (cv G.1)).toArray) c 0 0 (Aof G) cc y.cls nL G cp mT roS := ⟨hx, hb, hml, hown, fun w hw => hts w (List.mem_cons_of_mem _ hw), ⟨by show 1 ≤ n + 1; omega, by show 60 ≤ 60 * (n + 1); omega, Nat.le_refl _, Nat.le_refl _⟩, hK, fun k hk => ⟨k, hk, rfl⟩, fun _ _ _ h => h, hcp, hmT⟩
  have hret : RTK p l e (rmOf n) s m ((a.map (cv G.1)).toArray) below meth c 0 0 (Aof G) (MQ below (Qc0 G Q) ((a.map (cv G.1)).toArray) s 0 0 (Aof G)) G cc rk Q := by
    intro pc σ H locs lsA hP hS
    refine ⟨fun v hd hk hq => ?_, fun v hd hk hq => ?_, fun v hd hk hq => ?_, fun hd hk hq => ?_⟩
    · rcases hk with rfl | ⟨rfl, h01⟩
      · have hr' : meth.sig.returnType = some .int := by rw [hr]; exact hrk
        exact W.iret hx hb hr' (fun t ht hW => ⟨some (.inl v), σ, rfl, hq, by rw [ht]; exact hP, hS.F ht⟩) hS.2.2 hd
      · have hr' : meth.sig.returnType = some .boolean := by rw [hr]; exact hrk
        exact W.zret hx hb hr' (iI_01 h01).2.1 (fun t ht hW => ⟨some (.inl v), σ, rfl, hq, by rw [ht]; exact hP, hS.F ht⟩) hS.2.2 hd
    · subst hk
      have hr' : meth.sig.returnType = some .long := by rw [hr]; exact hrk
      exact W.lret hx hb hr' (fun t ht hW => ⟨some (.inr (.inr v)), σ, rfl, hq, by rw [ht]; exact hP, hS.F ht⟩) hS.2.2 hd
    · subst hk
      obtain ⟨nm, hnm⟩ := hrk
      have hr' : meth.sig.returnType = some (.object nm) := by rw [hr]; exact hnm
      exact W.aret hx hb hr' (Or.inl ⟨nm, rfl⟩) (Or.inr ⟨_, rfl⟩) (fun t ht hW => ⟨some (.inr (.inl v)), σ, rfl, hq, by rw [ht]; exact hP, hS.F ht⟩) hS.2.2 hd
    · subst hk
      have hr' : meth.sig.returnType = none := by rw [hr]; exact hrk
      exact W.vret hx hb hr' (fun t ht hW => ⟨none, σ, rfl, hq, by rw [ht]; exact hP, hS.F ht⟩) hS.2.2 hd
  have K0 := h (AW p l e (rmOf n) s m ((a.map (cv G.1)).toArray) below meth c 0 0 (Aof G) (MQ below (Qc0 G Q) ((a.map (cv G.1)).toArray) s 0 0 (Aof G)) nL G) (fun stop k pc ls st σ hh => wp_sound C hret stop k pc ls st σ hh)
  rw [lg_entry_eq]
  have hl := lv_entry (a.map (cv G.1)) (n := nL) (by rw [wid_sl]; exact hw)
  exact K0 s.heap [] _ hP va_S.rf ⟨entL_len a nL hw, by rw [entL_lvp]; exact hl⟩
theorem fin0 : ((0 : Fin 4) : Nat) = 0 := rfl
theorem fin1 : ((1 : Fin 4) : Nat) = 1 := rfl
theorem fin2 : ((2 : Fin 4) : Nat) = 2 := rfl
theorem fin3 : ((3 : Fin 4) : Nat) = 3 := rfl
