/-! ===== the reference's cheapest windows: reckons ===== -/
def capM (x : Int) : Int := if 99999999 < x then 99999999 else x
theorem capM_min (x : Int) : capM x = min x 99999999 := by
  unfold capM
  split
  · rw [Int.min_eq_right (by omega)]
  · rw [Int.min_eq_left (by omega)]
theorem isW_ne {w k : Nat} (h : isW w) (hk : SH k ≠ (0, 93, [])) : w ≠ k := fun e => hk (by rw [← e]; exact h.1)
theorem vM_only {σ τ : HP} {w o : Nat} (h : τ w = σ w) : vM τ w o = vM σ w o := by
  funext a c
  unfold vM
  rw [h]
def lmZ (V : HP) (c a t : Nat) : Int := if 4 ≤ V 1 (c + 1) then (if t ≤ a then -1000000 else ddV V (c + 1) a) else (if t = 0 then -1000000 else lstN (fun b => ddV V (c + 1) b + stpV V (c + 1) a b) t)
def nmZ (V : HP) (c a t : Nat) : Int := if 4 ≤ V 1 (c + 1) then (if t ≤ a then 0 else capM (wwV V (c + 1) a)) else capM (cntN (fun b => ddV V (c + 1) b + stpV V (c + 1) a b) (fun b => wwV V (c + 1) b) t)
def itZ (V : HP) (c a t : Nat) : Int := if 4 ≤ V 1 (c + 1) ∧ (a : Int) ≠ t then -1000000 else stpV V (c + 1) a t + ddV V (c + 1) t
/-- one step of the reference's inner loop -/
theorem rk_step {V : HP} (hV : okV V) {c a t : Nat} (hc : c + 1 < ncV V) (ha : a < 24) (ht : t < 24) :
    lmZ V c a (t + 1) = (if itZ V c a t ≠ -1000000 ∧ (lmZ V c a t = -1000000 ∨ itZ V c a t < lmZ V c a t) then itZ V c a t else lmZ V c a t) ∧
    nmZ V c a (t + 1) = capM ((if itZ V c a t ≠ -1000000 ∧ (lmZ V c a t = -1000000 ∨ itZ V c a t < lmZ V c a t) then 0 else nmZ V c a t) + (if itZ V c a t ≠ -1000000 ∧ itZ V c a t = lmZ V c a (t + 1) then capM (wwV V (c + 1) t) else 0)) ∧
    (itZ V c a t = -1000000 ∨ (0 ≤ itZ V c a t ∧ itZ V c a t ≤ 1000)) ∧ (lmZ V c a t = -1000000 ∨ (0 ≤ lmZ V c a t ∧ lmZ V c a t ≤ 1000)) ∧ (0 ≤ nmZ V c a t ∧ nmZ V c a t ≤ 99999999) := by
  have db := fun x (hx : x < 24) => ddV_b hV (c := c + 1) (a := x) hc hx
  have wb := fun x => wwV_b hV (c := c + 1) (a := x)
  have sb := fun x (hx : x < 24) => stpV_b (V := V) (c := c + 1) ha hx
  have d1 := db t ht
  have d2 := db a ha
  have w1 := wb t
  have w2 := wb a
  have s1 := sb t ht
  by_cases hh : 4 ≤ V 1 (c + 1)
  · unfold lmZ nmZ itZ
    simp only [hh, if_true, true_and]
    by_cases e : t = a
    · subst e
      have s0 := stpV_0 (V := V) (c := c + 1) (a := t)
      rw [s0]
      unfold capM
      refine ⟨?_, ?_, ?_, ?_, ?_⟩ <;> (repeat' split) <;> omega
    · unfold capM
      refine ⟨?_, ?_, ?_, ?_, ?_⟩ <;> (repeat' split) <;> omega
  · obtain ⟨f, hf⟩ : ∃ f : Nat → Int, f = fun b => ddV V (c + 1) b + stpV V (c + 1) a b := ⟨_, rfl⟩
    obtain ⟨g, hg⟩ : ∃ g : Nat → Int, g = fun b => wwV V (c + 1) b := ⟨_, rfl⟩
    unfold lmZ nmZ itZ
    simp only [hh, if_false, false_and, not_false_eq_true]
    rw [← hf, ← hg]
    have ft : ddV V (c + 1) t + stpV V (c + 1) a t = f t := by rw [hf]
    have gt : wwV V (c + 1) t = g t := by rw [hg]
    rw [Int.add_comm, ft, gt, lstN_s, cntN_s]
    have cb := cntN_b f g 2641807540224 (fun x => by rw [hg]; exact wb x) t
    have lb : t = 0 ∨ (0 ≤ lstN f t ∧ lstN f t ≤ 1000) := by
      by_cases e : t = 0
      · exact Or.inl e
      · right
        have h1 := fstN_ok f t (fun x hx => by rw [hf]; have := db x (by omega); have := sb x (by omega); show ddV V (c + 1) x + stpV V (c + 1) a x < _; omega) (by omega)
        rw [← h1.2.1, hf]
        have := db (fstN f t) (by omega)
        have := sb (fstN f t) (by omega)
        rw [hf] at this
        show 0 ≤ ddV V (c + 1) _ + stpV V (c + 1) a _ ∧ ddV V (c + 1) _ + stpV V (c + 1) a _ ≤ 1000
        rw [← hf]
        have h5 := db (fstN f t) (by omega)
        have h6 := sb (fstN f t) (by omega)
        omega
    have l0 : t = 0 → lstN f t = 1000000 ∧ cntN f g t = 0 := fun e => by subst e; exact ⟨rfl, rfl⟩
    rw [← ft] at *
    rw [← gt] at *
    have fb : 0 ≤ ddV V (c + 1) t + stpV V (c + 1) a t ∧ ddV V (c + 1) t + stpV V (c + 1) a t ≤ 1000 := by omega
    generalize ddV V (c + 1) t + stpV V (c + 1) a t = F at *
    generalize lstN f t = L at *
    generalize cntN f g t = C at *
    generalize wwV V (c + 1) t = G at *
    unfold capM
    refine ⟨?_, ?_, ?_, ?_, ?_⟩ <;> (repeat' split) <;> omega
theorem rk_end {V : HP} {c a : Nat} (hc : c + 1 < ncV V) (ha : a < 24) : lmZ V c a 24 = gcV V c a ∧ nmZ V c a 24 = capM (wwV V c a) := by
  rw [wwV_eq (by omega)]
  unfold lmZ nmZ gcV
  rw [if_neg (show ¬ ncV V ≤ c + 1 by omega), if_neg (show ¬ ncV V ≤ c + 1 by omega)]
  split
  · rw [if_neg (by omega), if_neg (by omega)]
    exact ⟨rfl, rfl⟩
  · rw [if_neg (by decide)]
    exact ⟨rfl, rfl⟩
