/-! ===== a piece, as one table of numbers: 0 signature, chords, notes; 1 kinds, 2 bars, 3 phrases, 4 firsts, 5 counts, 6 keys ===== -/
def vC (σ : HP) (p : Nat) : HP := fun k c => match k with
  | 0 => if c < 3 then σ p c else 0
  | 1 => if (c : Int) < σ p 1 then σ (p + 1) c else 0
  | 2 => if (c : Int) < σ p 1 then σ (p + 2) c else 0
  | 3 => if (c : Int) < σ p 1 then σ (p + 3) c else 0
  | 4 => if (c : Int) < σ p 1 then σ (p + 4) c else 0
  | 5 => if (c : Int) < σ p 1 then σ (p + 4) (c + 1) - σ (p + 4) c else 0
  | 6 => if (c : Int) < σ p 2 then σ (p + 5) c else 0
  | _ => 0
def vM (σ : HP) (w o : Nat) : HP := fun k c => match k with
  | 0 => if c < 3 then σ w (o + c) else 0
  | 1 => if (c : Int) < σ w (o + 1) then σ w (o + (5 * c + 3)) else 0
  | 2 => if (c : Int) < σ w (o + 1) then σ w (o + (5 * c + 6)) else 0
  | 3 => if (c : Int) < σ w (o + 1) then σ w (o + (5 * c + 7)) else 0
  | 4 => if (c : Int) < σ w (o + 1) then σ w (o + (5 * c + 4)) else 0
  | 5 => if (c : Int) < σ w (o + 1) then σ w (o + (5 * c + 5)) else 0
  | 6 => if (c : Int) < σ w (o + 2) then σ w (o + (53 + c)) else 0
  | _ => 0
def okV (V : HP) : Prop := (0 ≤ V 0 0 ∧ V 0 0 ≤ 14) ∧ (0 ≤ V 0 1 ∧ V 0 1 ≤ 10) ∧ (0 ≤ V 0 2 ∧ V 0 2 ≤ 40) ∧ (V 0 1 = 0 → V 0 2 = 0) ∧
  (∀ c : Nat, (c : Int) < V 0 1 → (1 ≤ V 1 c ∧ V 1 c ≤ 5) ∧ (0 ≤ V 2 c ∧ V 2 c ≤ 1) ∧ (0 ≤ V 3 c ∧ V 3 c ≤ 1) ∧ 0 ≤ V 4 c ∧ (1 ≤ V 5 c ∧ V 5 c ≤ 4) ∧ V 4 c + V 5 c ≤ V 0 2 ∧ (c = 0 → V 4 c = 0 ∧ V 2 c = 1 ∧ V 3 c = 1) ∧ ((c : Int) + 1 < V 0 1 → V 4 (c + 1) = V 4 c + V 5 c) ∧ ((c : Int) + 1 = V 0 1 → V 4 c + V 5 c = V 0 2)) ∧
  (∀ n : Nat, (n : Int) < V 0 2 → 0 ≤ V 6 n ∧ V 6 n < 12)
def cntL (nm : Nat → Int) (t : Int) : Nat → Int
  | 0 => 0
  | k + 1 => cntL nm t k + (if letZ (nm k) = t then 1 else 0)
def prS (kd g : Int) (nm : Nat → Int) : Nat → Int
  | 0 => 0
  | n + 1 => prS kd g nm n + prN kd g (nm n) + 5 * cntL nm (letZ (nm n)) n
/-- the names of a chord by a window -/
def nmV (V : HP) (c : Nat) (x : Int) : Nat → Int := fun j => namZ x (V 6 ((V 4 c).toNat + j))
/-- the price of a chord by a window -/
def pV (V : HP) (c : Nat) (x : Int) : Int := if V 1 c = 5 then 0 else prS (V 1 c) (V 0 0) (nmV V c x) (V 5 c).toNat
theorem cntL_b (nm : Nat → Int) (t : Int) : ∀ k, 0 ≤ cntL nm t k ∧ cntL nm t k ≤ k
  | 0 => ⟨Int.le_refl 0, Int.le_refl 0⟩
  | k + 1 => by
    have := cntL_b nm t k
    unfold cntL
    split <;> omega
theorem prN_b {kd g pl : Int} (h1 : -15 ≤ pl) (h2 : pl ≤ 19) : 0 ≤ prN kd g pl ∧ prN kd g pl ≤ 6 := by
  unfold prN altZ headV letZ
  split <;> (repeat' split) <;> omega
theorem namZ_b {x k : Int} (h1 : -15 ≤ x) (h2 : x ≤ 8) : -15 ≤ namZ x k ∧ namZ x k ≤ 19 := by
  unfold namZ
  omega
theorem letZ_b (x : Int) : 0 ≤ letZ x ∧ letZ x ≤ 6 := by
  unfold letZ
  omega
theorem prS_b {kd g : Int} {nm : Nat → Int} (hn : ∀ j, -15 ≤ nm j ∧ nm j ≤ 19) : ∀ n, n ≤ 4 → 0 ≤ prS kd g nm n ∧ prS kd g nm n ≤ 21 * n
  | 0, _ => ⟨Int.le_refl 0, Int.le_refl 0⟩
  | n + 1, h => by
    have h1 := prS_b (kd := kd) (g := g) hn n (by omega)
    have h2 := prN_b (kd := kd) (g := g) (hn n).1 (hn n).2
    have h3 := cntL_b nm (letZ (nm n)) n
    unfold prS
    omega
theorem nmV_b {V : HP} {c : Nat} {x : Int} (h1 : -15 ≤ x) (h2 : x ≤ 8) (j : Nat) : -15 ≤ nmV V c x j ∧ nmV V c x j ≤ 19 := namZ_b h1 h2
theorem pV_b {V : HP} {c : Nat} {x : Int} (hV : okV V) (hc : (c : Int) < V 0 1) (h1 : -15 ≤ x) (h2 : x ≤ 8) : 0 ≤ pV V c x ∧ pV V c x ≤ 84 := by
  unfold pV
  split
  · omega
  · have h3 := (hV.2.2.2.2.1 c hc).2.2.2.2.1
    have := prS_b (kd := V 1 c) (g := V 0 0) (nm := nmV V c x) (fun j => nmV_b h1 h2 j) (V 5 c).toNat (by omega)
    omega
/-- four bits a letter -/
def seenZ (nm : Nat → Int) (j : Nat) : Int := cntL nm 0 j + 16 * cntL nm 1 j + 256 * cntL nm 2 j + 4096 * cntL nm 3 j + 65536 * cntL nm 4 j + 1048576 * cntL nm 5 j + 16777216 * cntL nm 6 j
theorem iI_nat (n : Nat) : iI (n : Int) = nI n := by unfold iI nI; exact Int32.ofInt_eq_ofNat
theorem z_shr {s : Int} (h0 : 0 ≤ s) (h1 : s < 2147483648) (k : Nat) (y : Int) (hy : ((iI y &&& 31).toBitVec.smod 32).toNat = k) : zshr s y = s / ((2 ^ k : Nat) : Int) := by
  obtain ⟨n, rfl⟩ : ∃ n : Nat, s = (n : Int) := ⟨s.toNat, by omega⟩
  unfold zshr
  have hn : n < 2 ^ 31 := by omega
  rw [iI_nat, pk_shrN hn _ k hy, nI_toInt (Nat.lt_of_le_of_lt (Nat.div_le_self _ _) hn)]
  exact Int.natCast_ediv n (2 ^ k)
theorem z_and15 {s : Int} (h0 : 0 ≤ s) (h1 : s < 2147483648) : zand s 15 = s % 16 := by
  obtain ⟨n, rfl⟩ : ∃ n : Nat, s = (n : Int) := ⟨s.toNat, by omega⟩
  unfold zand
  rw [iI_nat, pk_andN (by omega) 4 (by decide +kernel), nI_toInt (by omega)]
  exact Int.natCast_emod n 16
theorem z_shl1 (k : Nat) (y : Int) (hy : ((iI y &&& 31).toBitVec.smod 32).toNat = k) (hk : 2 ^ k < 2 ^ 31) : zshl 1 y = ((2 ^ k : Nat) : Int) := by
  unfold zshl
  rw [show iI 1 = nI 1 from iI_nat 1, pk_shlN _ k hy (by omega), nI_toInt (by omega), Nat.one_mul]
theorem seen_get {nm : Nat → Int} {j : Nat} (hj : j ≤ 4) {t : Int} (h0 : 0 ≤ t) (h6 : t ≤ 6) : zand (zshr (seenZ nm j) (4 * t)) 15 = cntL nm t j := by
  have c0 := cntL_b nm 0 j
  have c1 := cntL_b nm 1 j
  have c2 := cntL_b nm 2 j
  have c3 := cntL_b nm 3 j
  have c4 := cntL_b nm 4 j
  have c5 := cntL_b nm 5 j
  have c6 := cntL_b nm 6 j
  have s0 : 0 ≤ seenZ nm j ∧ seenZ nm j < 2147483648 := by unfold seenZ; omega
  have ht : t = 0 ∨ t = 1 ∨ t = 2 ∨ t = 3 ∨ t = 4 ∨ t = 5 ∨ t = 6 := by omega
  rcases ht with rfl | rfl | rfl | rfl | rfl | rfl | rfl
  · rw [z_shr s0.1 s0.2 0 _ (by decide +kernel), z_and15 (by omega) (by omega)]; unfold seenZ; omega
  · rw [z_shr s0.1 s0.2 4 _ (by decide +kernel), z_and15 (by omega) (by omega)]; unfold seenZ; omega
  · rw [z_shr s0.1 s0.2 8 _ (by decide +kernel), z_and15 (by omega) (by omega)]; unfold seenZ; omega
  · rw [z_shr s0.1 s0.2 12 _ (by decide +kernel), z_and15 (by omega) (by omega)]; unfold seenZ; omega
  · rw [z_shr s0.1 s0.2 16 _ (by decide +kernel), z_and15 (by omega) (by omega)]; unfold seenZ; omega
  · rw [z_shr s0.1 s0.2 20 _ (by decide +kernel), z_and15 (by omega) (by omega)]; unfold seenZ; omega
  · rw [z_shr s0.1 s0.2 24 _ (by decide +kernel), z_and15 (by omega) (by omega)]; unfold seenZ; omega
theorem seen_put {nm : Nat → Int} {j : Nat} : seenZ nm j + zshl 1 (4 * letZ (nm j)) = seenZ nm (j + 1) := by
  have hb := letZ_b (nm j)
  have ht : letZ (nm j) = 0 ∨ letZ (nm j) = 1 ∨ letZ (nm j) = 2 ∨ letZ (nm j) = 3 ∨ letZ (nm j) = 4 ∨ letZ (nm j) = 5 ∨ letZ (nm j) = 6 := by omega
  unfold seenZ
  simp only [cntL]
  rcases ht with h | h | h | h | h | h | h <;> rw [h]
  · rw [z_shl1 0 _ (by decide +kernel) (by decide)]; simp; omega
  · rw [z_shl1 4 _ (by decide +kernel) (by decide)]; simp; omega
  · rw [z_shl1 8 _ (by decide +kernel) (by decide)]; simp; omega
  · rw [z_shl1 12 _ (by decide +kernel) (by decide)]; simp; omega
  · rw [z_shl1 16 _ (by decide +kernel) (by decide)]; simp; omega
  · rw [z_shl1 20 _ (by decide +kernel) (by decide)]; simp; omega
  · rw [z_shl1 24 _ (by decide +kernel) (by decide)]; simp; omega
theorem seenZ_0 (nm : Nat → Int) : seenZ nm 0 = 0 := rfl
theorem seenZ_b {nm : Nat → Int} {j : Nat} (hj : j ≤ 4) : 0 ≤ seenZ nm j ∧ seenZ nm j < 2147483648 := by
  have c0 := cntL_b nm 0 j
  have c1 := cntL_b nm 1 j
  have c2 := cntL_b nm 2 j
  have c3 := cntL_b nm 3 j
  have c4 := cntL_b nm 4 j
  have c5 := cntL_b nm 5 j
  have c6 := cntL_b nm 6 j
  unfold seenZ
  omega
theorem ix0 (c : Nat) : (3 + 5 * (c : Int)).toNat = 5 * c + 3 := by omega
theorem ix1 (c : Nat) : (3 + 5 * (c : Int) + 1).toNat = 5 * c + 4 := by omega
theorem ix2 (c : Nat) : (3 + 5 * (c : Int) + 2).toNat = 5 * c + 5 := by omega
theorem ix3 (c : Nat) : (3 + 5 * (c : Int) + 3).toNat = 5 * c + 6 := by omega
theorem ix4 (c : Nat) : (3 + 5 * (c : Int) + 4).toNat = 5 * c + 7 := by omega
