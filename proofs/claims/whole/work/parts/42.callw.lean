/-! ===== a call with more of one word below it ===== -/
def IVW (cc : ByteArray) (mT : Nat → Option (Nat × Bool × MSpec)) (K : KT) : Prop := ∀ (pc j n : Nat) (S : MSpec) (ls : LSt) (st : List AV) (σ : HP), decode cc pc = .ok (.invokevirtual j, 3) → mT j = some (n, true, S) → n ≤ st.length → wid (st.drop n) ≤ 8 → S (st.take n).reverse σ (fun r σ' => K (pc + 3) ls (r.toList ++ st.drop n) σ') → K pc ls st σ
theorem cat_wid (ad : Nat → Nat) : ∀ (r : List AV), ((r.map (cv ad)).map fun v => v.category).sum = wid r
  | [] => rfl
  | .inl z :: r => by
    have h1 := cat_wid ad r
    simp only [List.map_cons, List.sum_cons, wid, ← h1]
    rfl
  | .inr (.inl z) :: r => by
    have h1 := cat_wid ad r
    simp only [List.map_cons, List.sum_cons, wid, ← h1]
    rfl
  | .inr (.inr z) :: r => by
    have h1 := cat_wid ad r
    simp only [List.map_cons, List.sum_cons, wid, ← h1]
    rfl
section IV
variable {p : Program} {l : Launch} {e : Env} {R : Room} {s : State} {m : MethodId} {args : Array Value} {below : List Frame} {meth : Method} {c : Code} {cells slots : Nat}
variable {A : Nat → Prop} {Qf : State → Prop} {nL : Nat} {G : GT} {cc : ByteArray} {own : String} {cp : Nat → Option CE} {mT : Nat → Option (Nat × Bool × MSpec)} {ro : RO} {rk : Nat} {RT : Option AV → HP → Prop}
set_option maxHeartbeats 4000000 in
theorem iv_sound (C : CX p l R s m args c cells slots A cc own nL G cp mT ro) : IVW cc mT (AW p l e R s m args below meth c cells slots A Qf nL G) := by
  intro pc j n S ls st σ hd hm hn hlen hsp
  obtain ⟨hx, hb, hml, hown, hts, ⟨hR1, hR2, hR3, hR4⟩, hK, hA, hro, hcp, hmT⟩ := C
  intro H locs lsA hP hS hL
  have hAo : ∀ q, Aof G q → A q := fun q ⟨k, h1, h2⟩ => by rw [h2]; exact hA k h1
  obtain ⟨n', y, bc, mL, rt, f1, f2, f3, f4, f5, g1⟩ := hmT _ _ hm
  rcases g1 with ⟨-, g2, g3, g4, g5, ci, T, N, g6, g7⟩ | ⟨g0, -⟩
  · obtain ⟨⟨pl, r0, e1, hp, s1, s2⟩, hAM⟩ := g7 _ _ _ hsp
    have hM := hAM G
    rw [e1] at hM
    have htk : st.take n = r0.reverse ++ [.inr (.inl pl)] := by
      have := congrArg List.reverse e1
      rw [List.reverse_reverse] at this
      rw [this]
      simp
    have hst : st.map (cv G.1) = (r0.map (cv G.1)).reverse ++ .ref (G.1 pl) :: (st.drop n).map (cv G.1) := by
      conv => lhs; rw [← List.take_append_drop n st, htk]
      simp [cv]
    have hcat := cat_wid G.1 (st.drop n)
    have hln : r0.length + 1 = n := by
      have := congrArg List.length htk
      simp at this
      omega
    have g2' : (parseMethodDescriptor y.desc).map (fun d => d.parameters.length) = some r0.length := by
      cases hy : parseMethodDescriptor y.desc with
      | none => rw [hy] at g2; simp at g2
      | some d =>
        rw [hy] at g2
        simp only [Option.map_some, Option.some.injEq] at g2 ⊢
        omega
    have he2 : (gw G σ)[pl]? = some (G.1 pl, .inr (ci, ceV G.1 (σ pl) 0 (SH pl).2.2)) := by
      rw [gw_get hp, ce_obj s1, s2]
    have hpre : PreV s H y.cls (G.1 pl) (Pc0 G (.inr (.inl pl) :: r0) σ) (r0.map (cv G.1)) := ⟨Pc0.blind, va_recv hK.1 hP g6 he2, fun U hU hW => ⟨rfl, by rw [hU]; exact hP, by rw [hU]; exact KNs.move hK hW hS.1 hS.2.1 hAo hro⟩⟩
    have hrun : va_Run p l e R s m args below meth c H locs cells slots 0 0 (F0 m pc lsA (st.map (cv G.1))) ((st.drop n).map (cv G.1)) (Qc0 G (fun r σ' => AW p l e R s m args below meth c cells slots A Qf nL G (pc + 3) ls (r.toList ++ st.drop n) σ') ((Value.ref (G.1 pl) :: r0.map (cv G.1)).toArray)) (Aof G) :=
      va_runV (nL := nL) ⟨hx, hb, hml, hown, hts⟩ hM (cwV r0.length hts (goodIn_gtb (fun w hw => by
        simp only [wsV, List.cons_append, List.nil_append, List.mem_cons] at hw
        rcases hw with rfl | rfl | rfl | rfl | rfl | hw
        · exact g3
        · exact g4
        · exact g5
        · exact f4
        · exact f3
        · exact hw)) rfl rfl rfl ⟨rfl, f5.1, f5.2, g2'⟩ ⟨f1, f2⟩) hpre rfl (by simp) hL.2.1 hst (lv_room (by omega)) hd ⟨hR3, hR4⟩
    refine aw_run hrun hS hAo (fun r σ' H1 locs1 hq hP1 hS1 => ?_)
    have := hq H1 locs1 lsA hP1 hS1 hL
    rw [List.map_append, show (r.toList).map (cv G.1) = (r.map (cv G.1)).toList by cases r <;> rfl] at this
    exact this
  · cases g0
end IV
theorem am_ofG {l : Launch} {n : Nat} {y : MethodName} {cc : ByteArray} {nL : Nat} {rt : Option FieldType} {a : List AV} {σ : HP} {Q : Option AV → HP → Prop} (rk : Nat) (cp : Nat → Option CE) (mT : Nat → Option (Nat × Bool × MSpec)) (hy : plainFor y = true) (hrk : rkOK rk rt) (hw : wid a ≤ nL) (hcp : ∀ i e, cp i = some e → cpV y.cls i e) (hmT : ∀ i e, mT i = some e → mV l (rmOf n) y.cls i e)
    (h : ∀ K : KT, SND cc cp mT roS rk Q K → IVW cc mT K → K 0 (entL nL a) [] σ) : AM l n y cc nL rt a σ Q := by
  intro G
  refine va_MetF (cc := cc) (maxL := nL) (ret := rt) hy rfl ?_
  intro p e s m args below meth c s₁ B hml hv
  obtain ⟨rfl, hP, hK⟩ := hv
  have hx := B.exec
  have hb := B.bytes
  have hr := B.returns
  have hts := atoms_spec (ws := Cond.code y cc nL rt :: gtb) B.pre
  have hown : s.vm.findClass y.cls = some m.cls := findClass_of_methodNamed B.named
  have hlocks := B.notSynchronized
  have C : CX p l (rmOf n) s m ((a.map (cv G.1)).toArray) c 0 0 (Aof G) cc y.cls nL G cp mT roS := ⟨hx, hb, hml, hown, fun w hw => hts w (List.mem_cons_of_mem _ hw), ⟨by show 1 ≤ n + 1; omega, by show 60 ≤ 60 * (n + 1); omega, Nat.le_refl _, Nat.le_refl _⟩, hK, fun k hk => ⟨k, hk, rfl⟩, fun _ _ _ h => h, hcp, hmT⟩
  have hret : RTK p l e (rmOf n) s m ((a.map (cv G.1)).toArray) below meth c 0 0 (Aof G) (MQ below (Qc0 G Q) ((a.map (cv G.1)).toArray) s 0 0 (Aof G)) G cc rk Q := by
    intro pc σ H locs lsA hP hS
    refine ⟨fun v hd hk hq => ?_, fun v hd hk hq => ?_, fun v hd hk hq => ?_, fun hd hk hq => ?_⟩
    · rcases hk with rfl | ⟨rfl, h01⟩
      · have hr' : meth.sig.returnType = some .int := by rw [hr]; exact hrk
        exact W.iret hx hb hr' (fun t ht hW => ⟨some (.inl v), σ, rfl, hq, by rw [ht]; exact hP, hS.F ht⟩) hS.2.2 hd
      · have hr' : meth.sig.returnType = some .boolean := by rw [hr]; exact hrk
        exact W.zret hx hb hr' (iI_01 h01).2.1 (fun t ht hW => ⟨some (.inl v), σ, rfl, hq, by rw [ht]; exact hP, hS.F ht⟩) hS.2.2 hd
    · subst hk
      have hr' : meth.sig.returnType = some .long := by rw [hr]; exact hrk
      exact W.lret hx hb hr' (fun t ht hW => ⟨some (.inr (.inr v)), σ, rfl, hq, by rw [ht]; exact hP, hS.F ht⟩) hS.2.2 hd
    · subst hk
      obtain ⟨nm, hnm⟩ := hrk
      have hr' : meth.sig.returnType = some (.object nm) := by rw [hr]; exact hnm
      exact W.aret hx hb hr' (Or.inl ⟨nm, rfl⟩) (Or.inr ⟨_, rfl⟩) (fun t ht hW => ⟨some (.inr (.inl v)), σ, rfl, hq, by rw [ht]; exact hP, hS.F ht⟩) hS.2.2 hd
    · subst hk
      have hr' : meth.sig.returnType = none := by rw [hr]; exact hrk
      exact W.vret hx hb hr' (fun t ht hW => ⟨none, σ, rfl, hq, by rw [ht]; exact hP, hS.F ht⟩) hS.2.2 hd
  have K0 := h (AW p l e (rmOf n) s m ((a.map (cv G.1)).toArray) below meth c 0 0 (Aof G) (MQ below (Qc0 G Q) ((a.map (cv G.1)).toArray) s 0 0 (Aof G)) nL G) (fun stop k pc ls st σ hh => wp_sound C hret stop k pc ls st σ hh) (iv_sound C)
  rw [lg_entry_eq]
  have hl := lv_entry (a.map (cv G.1)) (n := nL) (by rw [wid_sl]; exact hw)
  exact K0 s.heap [] _ hP va_S.rf ⟨entL_len a nL hw, by rw [entL_lvp]; exact hl⟩
