/-! ===== a method out of its abstract walk ===== -/
section WPS
variable {p : Program} {l : Launch} {e : Env} {R : Room} {s : State} {m : MethodId} {args : Array Value} {below : List Frame} {meth : Method} {c : Code} {cells slots : Nat}
variable {A : Nat → Prop} {Qf : State → Prop} {nL : Nat} {G : GT} {cc : ByteArray} {own : String} {cp : Nat → Option CE} {mT : Nat → Option (Nat × Bool × MSpec)} {ro : RO} {rk : Nat} {RT : Option AV → HP → Prop}
theorem wp_sound (C : CX p l R s m args c cells slots A cc own nL G cp mT ro) (hret : RTK p l e R s m args below meth c cells slots A Qf G cc rk RT) (stop : Nat → Bool) : ∀ (n pc : Nat) (ls : LSt) (st : List AV) (σ : HP), wp cc cp mT ro rk RT (AW p l e R s m args below meth c cells slots A Qf nL G) stop n pc ls st σ → AW p l e R s m args below meth c cells slots A Qf nL G pc ls st σ
  | 0, pc, ls, st, σ, h => h
  | n + 1, pc, ls, st, σ, h => by
    simp only [wp] at h
    split at h
    · rename_i i len hd
      refine stp_sound C hret ?_ hd h.1 h.2
      intro pc' ls' st' σ' h'
      by_cases q : stop pc' = true
      · simp only [q, if_true] at h'
        exact h'
      · simp only [q] at h'
        exact wp_sound C hret stop n pc' ls' st' σ' h'
    · exact h.elim
end WPS
def nones : Nat → LSt
  | 0 => []
  | n + 1 => none :: nones n
def entL : Nat → List AV → LSt
  | n, [] => nones n
  | n, .inl z :: r => some (.inl z) :: entL (n - 1) r
  | n, .inr (.inl z) :: r => some (.inr (.inl z)) :: entL (n - 1) r
  | n, .inr (.inr z) :: r => some (.inr (.inr z)) :: none :: entL (n - 2) r
def wid : List AV → Nat
  | [] => 0
  | .inl _ :: r => 1 + wid r
  | .inr (.inl _) :: r => 1 + wid r
  | .inr (.inr _) :: r => 2 + wid r
theorem nones_len : ∀ n, (nones n).length = n
  | 0 => rfl
  | n + 1 => congrArg Nat.succ (nones_len n)
theorem nones_lvp (ad : Nat → Nat) : ∀ n k, lvp ad k (nones n) = []
  | 0, k => rfl
  | n + 1, k => nones_lvp ad n (k + 1)
theorem entL_len : ∀ (a : List AV) (n : Nat), wid a ≤ n → (entL n a).length = n
  | [], n, h => nones_len n
  | .inl z :: r, n, h => by
    have := entL_len r (n - 1) (by simp only [wid] at h; omega)
    simp only [entL, List.length_cons, this]
    simp only [wid] at h
    omega
  | .inr (.inl z) :: r, n, h => by
    have := entL_len r (n - 1) (by simp only [wid] at h; omega)
    simp only [entL, List.length_cons, this]
    simp only [wid] at h
    omega
  | .inr (.inr z) :: r, n, h => by
    have := entL_len r (n - 2) (by simp only [wid] at h; omega)
    simp only [entL, List.length_cons, this]
    simp only [wid] at h
    omega
theorem entL_lvp (ad : Nat → Nat) : ∀ (a : List AV) (n k : Nat), lvp ad k (entL n a) = lv_args k (a.map (cv ad))
  | [], n, k => nones_lvp ad n k
  | .inl z :: r, n, k => by
    have := entL_lvp ad r (n - 1) (k + 1)
    simp only [entL, lvp, List.map_cons, lv_args, this]
    rfl
  | .inr (.inl z) :: r, n, k => by
    have := entL_lvp ad r (n - 1) (k + 1)
    simp only [entL, lvp, List.map_cons, lv_args, this]
    rfl
  | .inr (.inr z) :: r, n, k => by
    have := entL_lvp ad r (n - 2) (k + 2)
    simp only [entL, lvp, List.map_cons, lv_args]
    rw [show k + 1 + 1 = k + 2 by omega, this]
    rfl
theorem wid_sl (ad : Nat → Nat) : ∀ (a : List AV), (lg_sl (a.map (cv ad))).length = wid a
  | [] => rfl
  | .inl z :: r => by
    have := wid_sl ad r
    simp only [lg_sl, List.map_cons, List.flatMap_cons, List.length_append] at this ⊢
    rw [this]
    rfl
  | .inr (.inl z) :: r => by
    have := wid_sl ad r
    simp only [lg_sl, List.map_cons, List.flatMap_cons, List.length_append] at this ⊢
    rw [this]
    rfl
  | .inr (.inr z) :: r => by
    have := wid_sl ad r
    simp only [lg_sl, List.map_cons, List.flatMap_cons, List.length_append] at this ⊢
    rw [this]
    rfl
def rkOK (rk : Nat) (rt : Option FieldType) : Prop := match rk with
  | 0 => rt = none
  | 1 => rt = some .int
  | 2 => rt = some .boolean
  | 3 => rt = some .long
  | 4 => ∃ n, rt = some (.object n)
  | _ => False
def SND (cc : ByteArray) (cp : Nat → Option CE) (mT : Nat → Option (Nat × Bool × MSpec)) (ro : RO) (rk : Nat) (RT : Option AV → HP → Prop) (K : KT) : Prop := ∀ (stop : Nat → Bool) (n pc : Nat) (ls : LSt) (st : List AV) (σ : HP), wp cc cp mT ro rk RT K stop n pc ls st σ → K pc ls st σ
theorem am_of {l : Launch} {n : Nat} {y : MethodName} {cc : ByteArray} {nL : Nat} {rt : Option FieldType} {a : List AV} {σ : HP} {Q : Option AV → HP → Prop} (rk : Nat) (cp : Nat → Option CE) (mT : Nat → Option (Nat × Bool × MSpec)) (hy : plainName y.cls = true) (hrk : rkOK rk rt) (hw : wid a ≤ nL) (hcp : ∀ i e, cp i = some e → cpV y.cls i e) (hmT : ∀ i e, mT i = some e → mV l (rmOf n) y.cls i e)
    (h : ∀ K : KT, SND cc cp mT roS rk Q K → K 0 (entL nL a) [] σ) : AM l n y cc nL rt a σ Q := by
  intro G
  refine Met.ofW (cc := cc) (maxL := nL) (ret := rt) hy rfl ?_
  intro p e s m args below meth c s₁ B hml hv
  obtain ⟨rfl, hP, hK⟩ := hv
  have hx := B.exec
  have hb := B.bytes
  have hr := B.returns
  have hts := atoms_spec (ws := Cond.code y cc nL rt :: gtb) B.pre
  have hown : s.vm.findClass y.cls = some m.cls := findClass_of_methodNamed B.named
  have hlocks := B.notSynchronized
  have C : CX p l (rmOf n) s m ((a.map (cv G.1)).toArray) c 0 0 (Aof G) cc y.cls nL G cp mT roS := ⟨hx, hb, hml, hown, fun w hw => hts w (List.mem_cons_of_mem _ hw), ⟨by show 1 ≤ n + 1; omega, by show 60 ≤ 60 * (n + 1); omega, Nat.le_refl _, Nat.le_refl _⟩, hK, fun k hk => ⟨k, hk, rfl⟩, fun _ _ _ h => h, hcp, hmT⟩
  have hret : RTK p l e (rmOf n) s m ((a.map (cv G.1)).toArray) below meth c 0 0 (Aof G) (MQ below (Qc0 G Q) ((a.map (cv G.1)).toArray) s 0 0 (Aof G)) G cc rk Q := by
    intro pc σ H locs lsA hP hS
    refine ⟨fun v hd hk hq => ?_, fun v hd hk hq => ?_, fun v hd hk hq => ?_, fun hd hk hq => ?_⟩
    · rcases hk with rfl | ⟨rfl, h01⟩
      · have hr' : meth.sig.returnType = some .int := by rw [hr]; exact hrk
        exact W.iret hx hb hr' (fun t ht hW => ⟨some (.inl v), σ, rfl, hq, by rw [ht]; exact hP, hS.F ht⟩) hS.2.2 hd
      · have hr' : meth.sig.returnType = some .boolean := by rw [hr]; exact hrk
        exact W.zret hx hb hr' (iI_01 h01).2.1 (fun t ht hW => ⟨some (.inl v), σ, rfl, hq, by rw [ht]; exact hP, hS.F ht⟩) hS.2.2 hd
    · subst hk
      have hr' : meth.sig.returnType = some .long := by rw [hr]; exact hrk
      exact W.lret hx hb hr' (fun t ht hW => ⟨some (.inr (.inr v)), σ, rfl, hq, by rw [ht]; exact hP, hS.F ht⟩) hS.2.2 hd
    · subst hk
      obtain ⟨nm, hnm⟩ := hrk
      have hr' : meth.sig.returnType = some (.object nm) := by rw [hr]; exact hnm
      exact W.aret hx hb hr' (Or.inl ⟨nm, rfl⟩) (Or.inr ⟨_, rfl⟩) (fun t ht hW => ⟨some (.inr (.inl v)), σ, rfl, hq, by rw [ht]; exact hP, hS.F ht⟩) hS.2.2 hd
    · subst hk
      have hr' : meth.sig.returnType = none := by rw [hr]; exact hrk
      exact W.vret hx hb hr' (fun t ht hW => ⟨none, σ, rfl, hq, by rw [ht]; exact hP, hS.F ht⟩) hS.2.2 hd
  have K0 := h (AW p l e (rmOf n) s m ((a.map (cv G.1)).toArray) below meth c 0 0 (Aof G) (MQ below (Qc0 G Q) ((a.map (cv G.1)).toArray) s 0 0 (Aof G)) nL G) (fun stop k pc ls st σ hh => wp_sound C hret stop k pc ls st σ hh)
  rw [lg_entry_eq]
  have hl := lv_entry (a.map (cv G.1)) (n := nL) (by rw [wid_sl]; exact hw)
  exact K0 s.heap [] _ hP va_S.rf ⟨entL_len a nL hw, by rw [entL_lvp]; exact hl⟩
