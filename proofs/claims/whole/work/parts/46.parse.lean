/-! ===== reading a piece: pure ===== -/
abbrev isDg (B : Nat → Int) (L i : Nat) : Prop := i < L ∧ 48 ≤ B i ∧ B i ≤ 57
def tkT (B : Nat → Int) (L p : Nat) : Int := if L ≤ p then -1 else if isDg B L p then (if isDg B L (p + 1) ∧ isDg B L (p + 2) then -2 else -3) else if (97 ≤ B p ∧ B p ≤ 122) ∨ B p = 44 ∨ B p = 59 then B p else -2
def tkW (B : Nat → Int) (L p : Nat) : Nat := if isDg B L p ∧ isDg B L (p + 1) then 2 else 1
def tkV (B : Nat → Int) (L p : Nat) : Int := if isDg B L (p + 1) then 10 * (B p - 48) + (B (p + 1) - 48) else B p - 48
def kdZ (c : Int) : Int := if c = 99 then 1 else if c = 114 then 2 else if c = 108 then 3 else if c = 104 then 4 else if c = 111 then 5 else 0
/-- a chord is opened, with j keys -/
def opD (D : HP) (kd b f : Int) (g : Nat → Int) (j : Nat) : HP := fun k c => match k with
  | 0 => if c = 1 then D 0 1 + 1 else if c = 2 then D 0 2 + j else D 0 c
  | 1 => if (c : Int) = D 0 1 then kd else D 1 c
  | 2 => if (c : Int) = D 0 1 then b else D 2 c
  | 3 => if (c : Int) = D 0 1 then f else D 3 c
  | 4 => if (c : Int) = D 0 1 then D 0 2 else D 4 c
  | 5 => if (c : Int) = D 0 1 then (j : Int) else D 5 c
  | 6 => if D 0 2 ≤ (c : Int) ∧ (c : Int) < D 0 2 + j then g (c - (D 0 2).toNat) else D 6 c
  | k + 7 => D (k + 7) c
def adC (D : HP) (kd b f : Int) : HP := opD D kd b f (fun _ => 0) 0
def adK (D : HP) (v : Int) : HP := hset (hset (hset D 6 (D 0 2).toNat v) 5 (D 0 1 - 1).toNat (D 5 (D 0 1 - 1).toNat + 1)) 0 2 (D 0 2 + 1)
/-- the number of keys of the last chord -/
def szD (D : HP) : Int := D 5 (D 0 1 - 1).toNat
theorem opD_g {D : HP} {kd b f : Int} {g g' : Nat → Int} {j : Nat} (h : ∀ i, i < j → g i = g' i) (h0 : 0 ≤ D 0 2) : opD D kd b f g j = opD D kd b f g' j := by
  funext k c
  rcases k with _ | _ | _ | _ | _ | _ | _ | k <;> simp only [opD, Nat.zero_add, Nat.reduceAdd]
  split
  · exact h _ (by omega)
  · rfl
theorem adK_op {D : HP} {kd b f : Int} {g : Nat → Int} {j : Nat} {v : Int} (h1 : 0 ≤ D 0 1) (h2 : 0 ≤ D 0 2) : adK (opD D kd b f g j) v = opD D kd b f (fun i => if i = j then v else g i) (j + 1) := by
  have e1 : opD D kd b f g j 0 1 = D 0 1 + 1 := rfl
  have e2 : opD D kd b f g j 0 2 = D 0 2 + j := rfl
  have e5 : opD D kd b f g j 5 (D 0 1).toNat = j := by
    show (if (((D 0 1).toNat : Nat) : Int) = D 0 1 then (j : Int) else _) = _
    rw [if_pos (by omega)]
  unfold adK
  rw [e1, e2, show (D 0 1 + 1 - 1).toNat = (D 0 1).toNat by congr 1; omega, e5]
  funext k c
  rcases k with _ | _ | _ | _ | _ | _ | _ | k <;> simp only [opD, hset_at, Nat.zero_add, Nat.reduceAdd]
  · by_cases h : c = 1
    · subst h; simp
    · by_cases h' : c = 2
      · subst h'; simp; omega
      · simp [h, h']
  · simp
  · simp
  · simp
  · simp
  · (repeat' split) <;> first | rfl | omega | (simp_all; done) | (simp_all <;> omega)
  · (repeat' split) <;> first | rfl | omega | (simp_all; done) | (simp_all <;> omega)
  · simp
theorem szD_op {D : HP} {kd b f : Int} {g : Nat → Int} {j : Nat} (h1 : 0 ≤ D 0 1) : szD (opD D kd b f g j) = j := by
  have e1 : opD D kd b f g j 0 1 = D 0 1 + 1 := rfl
  unfold szD
  rw [e1]
  show (if (((D 0 1 + 1 - 1).toNat : Nat) : Int) = D 0 1 then (j : Int) else _) = _
  rw [if_pos (by omega)]
theorem opD_ok {D : HP} {kd b f : Int} {g : Nat → Int} {j : Nat} (hV : okV D) (hc : D 0 1 < 10) (hk : 1 ≤ kd ∧ kd ≤ 5) (hb : b = 0 ∨ b = 1) (hf : f = 0 ∨ f = 1) (h0 : D 0 1 = 0 → b = 1 ∧ f = 1) (hj : 1 ≤ j ∧ j ≤ 4) (hg : ∀ i, i < j → 0 ≤ g i ∧ g i < 12) (hn : D 0 2 ≤ 4 * D 0 1) : okV (opD D kd b f g j) ∧ opD D kd b f g j 0 2 ≤ 4 * opD D kd b f g j 0 1 := by
  obtain ⟨o1, o2, o3, o4, oc, on⟩ := hV
  have e1 : opD D kd b f g j 0 1 = D 0 1 + 1 := rfl
  have e2 : opD D kd b f g j 0 2 = D 0 2 + j := rfl
  have e0 : opD D kd b f g j 0 0 = D 0 0 := rfl
  refine ⟨⟨by rw [e0]; exact o1, by rw [e1]; omega, by rw [e2]; omega, by rw [e1]; omega, fun c hcc => ?_, fun n hnn => ?_⟩, by rw [e1, e2]; omega⟩
  · rw [e1] at hcc
    rw [e1, e2]
    by_cases h : (c : Int) = D 0 1
    · have f1 : opD D kd b f g j 1 c = kd := if_pos h
      have f2 : opD D kd b f g j 2 c = b := if_pos h
      have f3 : opD D kd b f g j 3 c = f := if_pos h
      have f4 : opD D kd b f g j 4 c = D 0 2 := if_pos h
      have f5 : opD D kd b f g j 5 c = j := if_pos h
      rw [f1, f2, f3, f4, f5]
      refine ⟨hk, by omega, by omega, by omega, by omega, by omega, fun h' => ?_, fun h' => by omega, fun h' => by omega⟩
      subst h'
      have := h0 (by omega)
      have := o4 (by omega)
      exact ⟨by omega, by omega, by omega⟩
    · have f1 : opD D kd b f g j 1 c = D 1 c := if_neg h
      have f2 : opD D kd b f g j 2 c = D 2 c := if_neg h
      have f3 : opD D kd b f g j 3 c = D 3 c := if_neg h
      have f4 : opD D kd b f g j 4 c = D 4 c := if_neg h
      have f5 : opD D kd b f g j 5 c = D 5 c := if_neg h
      obtain ⟨a1, a2, a3, a4, a5, a6, a7, a8, a9⟩ := oc c (by omega)
      rw [f1, f2, f3, f4, f5]
      refine ⟨a1, a2, a3, a4, a5, by omega, a7, fun h' => ?_, fun h' => by omega⟩
      by_cases h2 : (c : Int) + 1 = D 0 1
      · have f6 : opD D kd b f g j 4 (c + 1) = D 0 2 := if_pos (by omega)
        rw [f6, ← a9 h2]
      · have f6 : opD D kd b f g j 4 (c + 1) = D 4 (c + 1) := if_neg (by omega)
        rw [f6, a8 (by omega)]
  · rw [e2] at hnn
    by_cases h : D 0 2 ≤ (n : Int) ∧ (n : Int) < D 0 2 + j
    · have f6 : opD D kd b f g j 6 n = g (n - (D 0 2).toNat) := if_pos h
      rw [f6]
      exact hg _ (by omega)
    · have f6 : opD D kd b f g j 6 n = D 6 n := if_neg h
      rw [f6]
      exact on n (by omega)
abbrev PR : Type := Int × Int × HP
def fltR (k : Int) (p : Nat) : PR := (k, (p : Int), fun _ _ => 0)
/-- a chord's letter -/
def runS (run : Nat → Int → Int → Int → Int → HP → PR) (B : Nat → Int) (L p : Nat) (b f : Int) (D : HP) : PR := if kdZ (tkT B L p) = 0 then fltR 1 p else if 10 ≤ D 0 1 then fltR 3 p else run (p + tkW B L p) 4 0 0 (-1) (adC D (kdZ (tkT B L p)) b f)
def runB (run : Nat → Int → Int → Int → Int → HP → PR) (B : Nat → Int) (L p : Nat) (w b f lk : Int) (D : HP) : PR :=
  if tkT B L p = -1 then (if w = 6 then (0, (p : Int), D) else fltR 1 p)
  else if w = 0 then (if tkT B L p = 107 then run (p + tkW B L p) 1 b f lk D else fltR 1 p)
  else if w = 1 then (if tkT B L p = -3 then (if 0 ≤ tkV B L p ∧ tkV B L p < 15 then run (p + tkW B L p) 2 b f lk (hset D 0 0 (tkV B L p)) else fltR 2 p) else fltR 1 p)
  else if w = 2 then (if tkT B L p = 59 then run (p + tkW B L p) 3 b f lk D else fltR 1 p)
  else if w = 7 then (if tkT B L p = 59 then run (p + tkW B L p) 8 b f lk D else fltR 1 p)
  else if w = 9 then (if tkT B L p = 59 then run (p + tkW B L p) 3 b f lk D else fltR 1 p)
  else if w = 4 then (if tkT B L p = -3 then (if (0 ≤ tkV B L p ∧ tkV B L p < 12) ∧ lk < tkV B L p then run (p + tkW B L p) 5 b f (tkV B L p) (adK D (tkV B L p)) else fltR 2 p) else fltR 1 p)
  else if w = 5 then (if tkT B L p = 44 ∧ (0 < D 0 1 ∧ szD D < 4) then run (p + tkW B L p) 4 b f lk D else if tkT B L p = 59 then run (p + tkW B L p) 6 b f lk D else fltR 1 p)
  else if w = 6 ∧ tkT B L p = 98 then run (p + tkW B L p) 7 1 f lk D
  else if w ≠ 3 ∧ tkT B L p = 102 then run (p + tkW B L p) 9 b 1 lk D
  else runS run B L p b f D
def run (B : Nat → Int) (L : Nat) : Nat → Nat → Int → Int → Int → Int → HP → PR
  | 0, p, _, _, _, _, _ => fltR 1 p
  | d + 1, p, w, b, f, lk, D => runB (run B L d) B L p w b f lk D
theorem tkW_le {B : Nat → Int} {L p : Nat} (h : tkT B L p ≠ -1) : 1 ≤ tkW B L p ∧ p + tkW B L p ≤ L := by
  unfold tkT at h
  unfold tkW
  by_cases h1 : L ≤ p
  · rw [if_pos h1] at h
    exact absurd rfl h
  · split <;> omega
theorem run_fuel {B : Nat → Int} {L : Nat} : ∀ (d d' p : Nat) (w b f lk : Int) (D : HP), p ≤ L → L - p < d → L - p < d' → run B L d p w b f lk D = run B L d' p w b f lk D
  | 0, d', p, w, b, f, lk, D, _, h, _ => absurd h (Nat.not_lt_zero _)
  | d + 1, 0, p, w, b, f, lk, D, _, _, h => absurd h (Nat.not_lt_zero _)
  | d + 1, d' + 1, p, w, b, f, lk, D, hp, h, h' => by
    show runB (run B L d) B L p w b f lk D = runB (run B L d') B L p w b f lk D
    by_cases he : tkT B L p = -1
    · unfold runB
      rw [if_pos he, if_pos he]
    · have hw := tkW_le he
      have ih := fun w b f lk D => run_fuel (B := B) (L := L) d d' (p + tkW B L p) w b f lk D (by omega) (by omega) (by omega)
      unfold runB runS
      simp only [ih]
/-- the run from a place on -/
def RN (B : Nat → Int) (L p : Nat) (w b f lk : Int) (D : HP) : PR := run B L (L + 1 - p) p w b f lk D
theorem RN_eq {B : Nat → Int} {L p : Nat} {w b f lk : Int} {D : HP} (hp : p ≤ L) : RN B L p w b f lk D = runB (RN B L) B L p w b f lk D := by
  unfold RN
  rw [show L + 1 - p = (L - p) + 1 by omega]
  show runB (run B L (L - p)) B L p w b f lk D = _
  by_cases he : tkT B L p = -1
  · unfold runB
    rw [if_pos he, if_pos he]
  · have hw := tkW_le he
    have ih := fun w b f lk D => run_fuel (B := B) (L := L) (L - p) (L + 1 - (p + tkW B L p)) (p + tkW B L p) w b f lk D (by omega) (by omega) (by omega)
    unfold runB runS
    simp only [ih]
