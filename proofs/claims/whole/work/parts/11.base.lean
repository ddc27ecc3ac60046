/-! a method of any class that the machine has no row of its own for -/
theorem am_ofF {l : Launch} {n : Nat} {y : MethodName} {cc : ByteArray} {nL : Nat} {rt : Option FieldType} {a : List AV} {σ : HP} {Q : Option AV → HP → Prop} (rk : Nat) (cp : Nat → Option CE) (mT : Nat → Option (Nat × Bool × MSpec)) (hy : plainFor y = true) (hrk : rkOK rk rt) (hw : wid a ≤ nL) (hcp : ∀ i e, cp i = some e → cpV y.cls i e) (hmT : ∀ i e, mT i = some e → mV l (rmOf n) y.cls i e)
    (h : ∀ K : KT, SND cc cp mT roS rk Q K → K 0 (entL nL a) [] σ) : AM l n y cc nL rt a σ Q := by
  intro G
  refine va_MetF (cc := cc) (maxL := nL) (ret := rt) hy rfl ?_
  intro p e s m args below meth c s₁ B hml hv
  obtain ⟨rfl, hP, hK⟩ := hv
  have hx := B.exec
  have hb := B.bytes
  have hr := B.returns
  have hts := atoms_spec (ws := Cond.code y cc nL rt :: gtb) B.pre
  have hown : s.vm.findClass y.cls = some m.cls := findClass_of_methodNamed B.named
  have hlocks := B.notSynchronized
  have C : CX p l (rmOf n) s m ((a.map (cv G.1)).toArray) c 0 0 (Aof G) cc y.cls nL G cp mT roS := ⟨hx, hb, hml, hown, fun w hw => hts w (List.mem_cons_of_mem _ hw), ⟨by show 1 ≤ n + 1; omega, by show 60 ≤ 60 * (n + 1); omega, Nat.le_refl _, Nat.le_refl _⟩, hK, fun k hk => ⟨k, hk, rfl⟩, fun _ _ _ h => h, hcp, hmT⟩
  have hret : RTK p l e (rmOf n) s m ((a.map (cv G.1)).toArray) below meth c 0 0 (Aof G) (MQ below (Qc0 G Q) ((a.map (cv G.1)).toArray) s 0 0 (Aof G)) G cc rk Q := by
    intro pc σ H locs lsA hP hS
    refine ⟨fun v hd hk hq => ?_, fun v hd hk hq => ?_, fun v hd hk hq => ?_, fun hd hk hq => ?_⟩
    · rcases hk with rfl | ⟨rfl, h01⟩
      · have hr' : meth.sig.returnType = some .int := by rw [hr]; exact hrk
        exact W.iret hx hb hr' (fun t ht hW => ⟨some (.inl v), σ, rfl, hq, by rw [ht]; exact hP, hS.F ht⟩) hS.2.2 hd
      · have hr' : meth.sig.returnType = some .boolean := by rw [hr]; exact hrk
        exact W.zret hx hb hr' (iI_01 h01).2.1 (fun t ht hW => ⟨some (.inl v), σ, rfl, hq, by rw [ht]; exact hP, hS.F ht⟩) hS.2.2 hd
    · subst hk
      have hr' : meth.sig.returnType = some .long := by rw [hr]; exact hrk
      exact W.lret hx hb hr' (fun t ht hW => ⟨some (.inr (.inr v)), σ, rfl, hq, by rw [ht]; exact hP, hS.F ht⟩) hS.2.2 hd
    · subst hk
      obtain ⟨nm, hnm⟩ := hrk
      have hr' : meth.sig.returnType = some (.object nm) := by rw [hr]; exact hnm
      exact W.aret hx hb hr' (Or.inl ⟨nm, rfl⟩) (Or.inr ⟨_, rfl⟩) (fun t ht hW => ⟨some (.inr (.inl v)), σ, rfl, hq, by rw [ht]; exact hP, hS.F ht⟩) hS.2.2 hd
    · subst hk
      have hr' : meth.sig.returnType = none := by rw [hr]; exact hrk
      exact W.vret hx hb hr' (fun t ht hW => ⟨none, σ, rfl, hq, by rw [ht]; exact hP, hS.F ht⟩) hS.2.2 hd
  have K0 := h (AW p l e (rmOf n) s m ((a.map (cv G.1)).toArray) below meth c 0 0 (Aof G) (MQ below (Qc0 G Q) ((a.map (cv G.1)).toArray) s 0 0 (Aof G)) nL G) (fun stop k pc ls st σ hh => wp_sound C hret stop k pc ls st σ hh)
  rw [lg_entry_eq]
  have hl := lv_entry (a.map (cv G.1)) (n := nL) (by rw [wid_sl]; exact hw)
  exact K0 s.heap [] _ hP va_S.rf ⟨entL_len a nL hw, by rw [entL_lvp]; exact hl⟩
theorem fin0 : ((0 : Fin 4) : Nat) = 0 := rfl
theorem fin1 : ((1 : Fin 4) : Nat) = 1 := rfl
theorem fin2 : ((2 : Fin 4) : Nat) = 2 := rfl
theorem fin3 : ((3 : Fin 4) : Nat) = 3 := rfl
theorem hset_same {σ : HP} {p k : Nat} {v : Int} : hset σ p k v p k = v := by simp [hset]
theorem hset_o {σ : HP} {p k q j : Nat} {v : Int} (h : q ≠ p) : hset σ p k v q j = σ q j := by simp [hset, h]
theorem hset_s {σ : HP} {p k j : Nat} {v : Int} (h : j ≠ k) : hset σ p k v p j = σ p j := by simp [hset, h]
theorem hset_row {σ : HP} {p k q : Nat} {v : Int} (h : q ≠ p) : hset σ p k v q = σ q := hset_ne h
theorem aTL {α : Type} (l : List α) : l.toArray.toList = l := rfl
theorem aSZ {α : Type} (l : List α) : l.toArray.size = l.length := rfl
theorem SHl_0 : SH 0 = (4, 6, [some 1, some 5, some 7, some 14, some 22, some 29, some 37, some 38, some 42, none, none, none, none, none, none]) := rfl
theorem SHl_1 : SH 1 = (4, 4, [some 2, some 3, some 4]) := rfl
theorem SHl_2 : SH 2 = (0, 320, []) := rfl
theorem SHl_3 : SH 3 = (0, 8, []) := rfl
theorem SHl_4 : SH 4 = (0, 8, []) := rfl
theorem SHl_5 : SH 5 = (4, 5, [some 6, none, none, none, none, none, none, none, none, none]) := rfl
theorem SHl_6 : SH 6 = (0, 130, []) := rfl
theorem SHl_7 : SH 7 = (4, 3, [none, none, none, some 8, some 9, some 10, some 11, some 12, some 13]) := rfl
theorem SHl_8 : SH 8 = (0, 10, []) := rfl
theorem SHl_9 : SH 9 = (0, 10, []) := rfl
theorem SHl_10 : SH 10 = (0, 10, []) := rfl
theorem SHl_11 : SH 11 = (0, 11, []) := rfl
theorem SHl_12 : SH 12 = (0, 40, []) := rfl
theorem SHl_13 : SH 13 = (0, 40, []) := rfl
theorem SHl_14 : SH 14 = (4, 2, [none, none, none, some 15, some 16, some 17, some 18, some 19, some 20, some 21]) := rfl
theorem SHl_15 : SH 15 = (0, 10, []) := rfl
theorem SHl_16 : SH 16 = (0, 40, []) := rfl
theorem SHl_17 : SH 17 = (0, 40, []) := rfl
theorem SHl_18 : SH 18 = (0, 240, []) := rfl
theorem SHl_19 : SH 19 = (1, 240, []) := rfl
theorem SHl_20 : SH 20 = (0, 240, []) := rfl
theorem SHl_21 : SH 21 = (0, 7, []) := rfl
theorem SHl_22 : SH 22 = (4, 3, [none, none, none, some 23, some 24, some 25, some 26, some 27, some 28]) := rfl
theorem SHl_23 : SH 23 = (0, 10, []) := rfl
theorem SHl_24 : SH 24 = (0, 10, []) := rfl
theorem SHl_25 : SH 25 = (0, 10, []) := rfl
theorem SHl_26 : SH 26 = (0, 11, []) := rfl
theorem SHl_27 : SH 27 = (0, 40, []) := rfl
theorem SHl_28 : SH 28 = (0, 40, []) := rfl
theorem SHl_29 : SH 29 = (4, 2, [none, none, none, some 30, some 31, some 32, some 33, some 34, some 35, some 36]) := rfl
theorem SHl_30 : SH 30 = (0, 10, []) := rfl
theorem SHl_31 : SH 31 = (0, 40, []) := rfl
theorem SHl_32 : SH 32 = (0, 40, []) := rfl
theorem SHl_33 : SH 33 = (0, 240, []) := rfl
theorem SHl_34 : SH 34 = (1, 240, []) := rfl
theorem SHl_35 : SH 35 = (0, 240, []) := rfl
theorem SHl_36 : SH 36 = (0, 7, []) := rfl
theorem SHl_37 : SH 37 = (3, 2, [some 44, some 51]) := rfl
theorem SHl_38 : SH 38 = (4, 0, [none, some 39, some 40, some 41]) := rfl
theorem SHl_39 : SH 39 = (0, 16, []) := rfl
theorem SHl_40 : SH 40 = (0, 16, []) := rfl
theorem SHl_41 : SH 41 = (0, 16, []) := rfl
theorem SHl_42 : SH 42 = (4, 1, [none, some 43, none, none, none, none]) := rfl
theorem SHl_43 : SH 43 = (0, 16, []) := rfl
theorem SHl_44 : SH 44 = (4, 3, [none, none, none, some 45, some 46, some 47, some 48, some 49, some 50]) := rfl
theorem SHl_45 : SH 45 = (0, 10, []) := rfl
theorem SHl_46 : SH 46 = (0, 10, []) := rfl
theorem SHl_47 : SH 47 = (0, 10, []) := rfl
theorem SHl_48 : SH 48 = (0, 11, []) := rfl
theorem SHl_49 : SH 49 = (0, 40, []) := rfl
theorem SHl_50 : SH 50 = (0, 40, []) := rfl
theorem SHl_51 : SH 51 = (4, 3, [none, none, none, some 52, some 53, some 54, some 55, some 56, some 57]) := rfl
theorem SHl_52 : SH 52 = (0, 10, []) := rfl
theorem SHl_53 : SH 53 = (0, 10, []) := rfl
theorem SHl_54 : SH 54 = (0, 10, []) := rfl
theorem SHl_55 : SH 55 = (0, 11, []) := rfl
theorem SHl_56 : SH 56 = (0, 40, []) := rfl
theorem SHl_57 : SH 57 = (0, 40, []) := rfl
theorem SHl_58 : SH 58 = (4, 7, [some 59, some 60, some 61, some 62, none, some 63, none, none, none, none, none, none, none, some 64, some 65, some 66, some 67, none, some 68, some 69, some 70, some 71, some 72, none, some 73, some 74, some 75, none]) := rfl
theorem SHl_59 : SH 59 = (0, 8, []) := rfl
theorem SHl_60 : SH 60 = (0, 8, []) := rfl
theorem SHl_61 : SH 61 = (0, 320, []) := rfl
theorem SHl_62 : SH 62 = (0, 40, []) := rfl
theorem SHl_63 : SH 63 = (0, 130, []) := rfl
theorem SHl_64 : SH 64 = (0, 93, []) := rfl
theorem SHl_65 : SH 65 = (0, 93, []) := rfl
theorem SHl_66 : SH 66 = (0, 93, []) := rfl
theorem SHl_67 : SH 67 = (0, 1488, []) := rfl
theorem SHl_68 : SH 68 = (0, 186, []) := rfl
theorem SHl_69 : SH 69 = (2, 2, []) := rfl
theorem SHl_70 : SH 70 = (0, 240, []) := rfl
theorem SHl_71 : SH 71 = (0, 240, []) := rfl
theorem SHl_72 : SH 72 = (0, 10, []) := rfl
theorem SHl_73 : SH 73 = (0, 7, []) := rfl
theorem SHl_74 : SH 74 = (0, 40, []) := rfl
theorem SHl_75 : SH 75 = (0, 16, []) := rfl
theorem SHl_76 : SH 76 = (9, 0, []) := rfl
theorem SHl_77 : SH 77 = (9, 0, []) := rfl
theorem SHl_78 : SH 78 = (9, 0, []) := rfl
