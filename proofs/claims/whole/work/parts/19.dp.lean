/-! ===== the cheapest windows: pure ===== -/
def lstN (f : Nat → Int) : Nat → Int
  | 0 => 1000000
  | n + 1 => if f n < lstN f n then f n else lstN f n
def fstN (f : Nat → Int) : Nat → Nat
  | 0 => 0
  | n + 1 => if f n < lstN f n then n else fstN f n
def cntN (f g : Nat → Int) : Nat → Int
  | 0 => 0
  | n + 1 => if f n < lstN f n then g n else if f n = lstN f n then cntN f g n + g n else cntN f g n
theorem lstN_le (f : Nat → Int) : ∀ n b, b < n → lstN f n ≤ f b
  | 0, b, h => absurd h (Nat.not_lt_zero b)
  | n + 1, b, h => by
    unfold lstN
    by_cases e : b = n
    · subst e
      split <;> omega
    · have := lstN_le f n b (by omega)
      split <;> omega
theorem lstN_s (f : Nat → Int) (n : Nat) : lstN f (n + 1) = if f n < lstN f n then f n else lstN f n := rfl
theorem fstN_s (f : Nat → Int) (n : Nat) : fstN f (n + 1) = if f n < lstN f n then n else fstN f n := rfl
theorem cntN_s (f g : Nat → Int) (n : Nat) : cntN f g (n + 1) = if f n < lstN f n then g n else if f n = lstN f n then cntN f g n + g n else cntN f g n := rfl
theorem fstN_ok (f : Nat → Int) : ∀ n, (∀ b, b < n → f b < 1000000) → 0 < n → fstN f n < n ∧ f (fstN f n) = lstN f n ∧ ∀ b, b < fstN f n → lstN f n < f b
  | 0, _, h => absurd h (Nat.lt_irrefl 0)
  | 1, hf, _ => by
    have := hf 0 (by omega)
    simp [fstN, lstN, this]
  | n + 2, hf, _ => by
    have ih := fstN_ok f (n + 1) (fun b hb => hf b (by omega)) (by omega)
    rw [fstN_s f (n + 1), lstN_s f (n + 1)]
    by_cases h : f (n + 1) < lstN f (n + 1)
    · rw [if_pos h, if_pos h]
      refine ⟨by omega, rfl, fun b hb => ?_⟩
      have := lstN_le f (n + 1) b (by omega)
      omega
    · rw [if_neg h, if_neg h]
      exact ⟨by omega, ih.2.1, ih.2.2⟩
theorem fstN_lt (f : Nat → Int) {n : Nat} (hf : ∀ b, b < n → f b < 1000000) (h : 0 < n) : fstN f n < n := (fstN_ok f n hf h).1
theorem lstN_nn (f : Nat → Int) (hf : ∀ b, 0 ≤ f b) : ∀ n, 0 ≤ lstN f n
  | 0 => by unfold lstN; omega
  | n + 1 => by
    have := lstN_nn f hf n
    have := hf n
    unfold lstN
    split <;> omega
theorem cntN_b (f g : Nat → Int) (M : Int) (hg : ∀ b, 0 ≤ g b ∧ g b ≤ M) : ∀ n : Nat, 0 ≤ cntN f g n ∧ cntN f g n ≤ n * M
  | 0 => by simp [cntN]
  | n + 1 => by
    have h1 := cntN_b f g M hg n
    have h2 := hg n
    have h3 : ((n + 1 : Nat) : Int) * M = n * M + M := by rw [Int.natCast_add, Int.add_mul]; simp
    have h4 : (0 : Int) ≤ n * M := by omega
    unfold cntN
    rw [h3]
    split
    · omega
    · split <;> omega
def stpV (V : HP) (c a b : Nat) : Int := stepZ (V 3 c) a b
def dV (V : HP) : Nat → Nat → Nat → Int
  | 0, c, a => 0 + pV V c ((a : Int) - 15)
  | k + 1, c, a => (if 4 ≤ V 1 (c + 1) then dV V k (c + 1) a else lstN (fun b => dV V k (c + 1) b + stpV V (c + 1) a b) 24) + pV V c ((a : Int) - 15)
def wV (V : HP) : Nat → Nat → Nat → Int
  | 0, _, _ => 1
  | k + 1, c, a => if 4 ≤ V 1 (c + 1) then wV V k (c + 1) a else cntN (fun b => dV V k (c + 1) b + stpV V (c + 1) a b) (fun b => wV V k (c + 1) b) 24
def nV (V : HP) : Nat → Nat → Nat → Nat
  | 0, _, a => a
  | k + 1, c, a => if 4 ≤ V 1 (c + 1) then a else fstN (fun b => dV V k (c + 1) b + stpV V (c + 1) a b) 24
theorem stpV_b {V : HP} {c a b : Nat} (ha : a < 24) (hb : b < 24) : 0 ≤ stpV V c a b ∧ stpV V c a b ≤ 23 := by
  unfold stpV stepZ
  split <;> omega
theorem stpV_0 {V : HP} {c a : Nat} : stpV V c a a = 0 := by
  unfold stpV stepZ
  simp
/-- beyond the windows a cost stays small, too -/
theorem stpV_nn {V : HP} {c a b : Nat} : 0 ≤ stpV V c a b := by
  unfold stpV stepZ
  split <;> omega
theorem dV_b {V : HP} (hV : okV V) : ∀ (k c a : Nat), ((c + k : Nat) : Int) < V 0 1 → a < 24 → 0 ≤ dV V k c a ∧ dV V k c a ≤ 84 * (k + 1)
  | 0, c, a, hc, ha => by
    have := pV_b (V := V) (c := c) (x := (a : Int) - 15) hV (by omega) (by omega) (by omega)
    unfold dV
    omega
  | k + 1, c, a, hc, ha => by
    have h1 := pV_b (V := V) (c := c) (x := (a : Int) - 15) hV (by omega) (by omega) (by omega)
    have ih := fun b (hb : b < 24) => dV_b hV k (c + 1) b (by omega) hb
    have h2 := ih a ha
    unfold dV
    split
    · omega
    · have h3 := lstN_le (fun b => dV V k (c + 1) b + stpV V (c + 1) a b) 24 a ha
      simp only [stpV_0] at h3
      have h4 : 0 ≤ lstN (fun b => dV V k (c + 1) b + stpV V (c + 1) a b) 24 := by
        have : ∀ n, n ≤ 24 → 0 ≤ lstN (fun b => dV V k (c + 1) b + stpV V (c + 1) a b) n := by
          intro n
          induction n with
          | zero => intro _; unfold lstN; omega
          | succ n ihn =>
            intro hn
            have g1 := ihn (by omega)
            have g2 := (ih n (by omega)).1
            have g3 := stpV_nn (V := V) (c := c + 1) (a := a) (b := n)
            unfold lstN
            split
            · omega
            · exact g1
        exact this 24 (Nat.le_refl 24)
      omega
/-- how many rows of windows there can be -/
def pw24 : Nat → Int
  | 0 => 1
  | n + 1 => 24 * pw24 n
theorem pw24_pos : ∀ n, 1 ≤ pw24 n
  | 0 => Int.le_refl 1
  | n + 1 => by
    have := pw24_pos n
    unfold pw24
    omega
theorem pw24_mono : ∀ n m, n ≤ m → pw24 n ≤ pw24 m
  | n, 0, h => by
    rw [show n = 0 by omega]
    omega
  | n, m + 1, h => by
    by_cases e : n = m + 1
    · rw [e]; omega
    · have h1 := pw24_mono n m (by omega)
      have h2 := pw24_pos m
      show pw24 n ≤ 24 * pw24 m
      omega
theorem wV_b (V : HP) : ∀ (k c a : Nat), 0 ≤ wV V k c a ∧ wV V k c a ≤ pw24 k
  | 0, c, a => ⟨by show (0 : Int) ≤ 1; omega, by show (1 : Int) ≤ 1; omega⟩
  | k + 1, c, a => by
    have ih := fun b => wV_b V k (c + 1) b
    have := pw24_pos k
    unfold wV pw24
    split
    · have := ih a
      omega
    · have := cntN_b (fun b => dV V k (c + 1) b + stpV V (c + 1) a b) (fun b => wV V k (c + 1) b) (pw24 k) ih 24
      omega
def ncV (V : HP) : Nat := (V 0 1).toNat
def ddV (V : HP) (c a : Nat) : Int := dV V (ncV V - 1 - c) c a
def wwV (V : HP) (c a : Nat) : Int := wV V (ncV V - 1 - c) c a
def nnV (V : HP) (c a : Nat) : Nat := nV V (ncV V - 1 - c) c a
def bestV (V : HP) : Int := lstN (fun a => ddV V 0 a) 24
def fstV (V : HP) : Nat := fstN (fun a => ddV V 0 a) 24
def waysV (V : HP) : Int := cntN (fun a => ddV V 0 a) (fun a => wwV V 0 a) 24
def winV (V : HP) : Nat → Nat
  | 0 => fstV V
  | c + 1 => nnV V c (winV V c)
/-- what goes on behind chord c, without its own price -/
def gcV (V : HP) (c a : Nat) : Int := if ncV V ≤ c + 1 then 0 else if 4 ≤ V 1 (c + 1) then ddV V (c + 1) a else lstN (fun b => ddV V (c + 1) b + stpV V (c + 1) a b) 24
theorem ddV_eq {V : HP} {c a : Nat} (hc : c < ncV V) : ddV V c a = gcV V c a + pV V c ((a : Int) - 15) := by
  unfold ddV gcV
  by_cases h : ncV V ≤ c + 1
  · rw [if_pos h, show ncV V - 1 - c = 0 by omega]
    rfl
  · rw [if_neg h, show ncV V - 1 - c = (ncV V - 1 - (c + 1)) + 1 by omega]
    rfl
theorem wwV_eq {V : HP} {c a : Nat} (hc : c < ncV V) : wwV V c a = if ncV V ≤ c + 1 then 1 else if 4 ≤ V 1 (c + 1) then wwV V (c + 1) a else cntN (fun b => ddV V (c + 1) b + stpV V (c + 1) a b) (fun b => wwV V (c + 1) b) 24 := by
  unfold wwV ddV
  by_cases h : ncV V ≤ c + 1
  · rw [if_pos h, show ncV V - 1 - c = 0 by omega]
    rfl
  · rw [if_neg h, show ncV V - 1 - c = (ncV V - 1 - (c + 1)) + 1 by omega]
    rfl
theorem nnV_eq {V : HP} {c a : Nat} (hc : c < ncV V) : nnV V c a = if ncV V ≤ c + 1 then a else if 4 ≤ V 1 (c + 1) then a else fstN (fun b => ddV V (c + 1) b + stpV V (c + 1) a b) 24 := by
  unfold nnV ddV
  by_cases h : ncV V ≤ c + 1
  · rw [if_pos h, show ncV V - 1 - c = 0 by omega]
    rfl
  · rw [if_neg h, show ncV V - 1 - c = (ncV V - 1 - (c + 1)) + 1 by omega]
    rfl
theorem ddV_b {V : HP} (hV : okV V) {c a : Nat} (hc : c < ncV V) (ha : a < 24) : 0 ≤ ddV V c a ∧ ddV V c a ≤ 840 := by
  have h1 := hV.2.1
  unfold ncV at hc
  have := dV_b hV (ncV V - 1 - c) c a (by unfold ncV; omega) ha
  unfold ddV
  unfold ncV at this ⊢
  omega
theorem wwV_b {V : HP} (hV : okV V) {c a : Nat} : 0 ≤ wwV V c a ∧ wwV V c a ≤ 2641807540224 := by
  have h1 := hV.2.1
  have := wV_b V (ncV V - 1 - c) c a
  have h2 := pw24_mono (ncV V - 1 - c) 9 (by unfold ncV; omega)
  have h3 : pw24 9 = 2641807540224 := by decide
  unfold wwV
  omega
