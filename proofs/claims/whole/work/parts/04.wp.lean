/-! ===== a machine over abstract values: what an instruction asks, and what comes behind it ===== -/
abbrev MSpec : Type := List AV → HP → (Option AV → HP → Prop) → Prop
abbrev LSt : Type := List (Option AV)
abbrev KT : Type := Nat → LSt → List AV → HP → Prop
def lnth : LSt → Nat → Option AV
  | [], _ => none
  | o :: _, 0 => o
  | _ :: r, i + 1 => lnth r i
def nolong (o : Option AV) : Option AV := match o with
  | some (.inr (.inr _)) => none
  | o => o
def st1 : LSt → Nat → AV → LSt
  | [], _, _ => []
  | _ :: r, 0, v => some v :: r
  | o :: r, i + 1, v => (if i = 0 then nolong o else o) :: st1 r i v
def nohead : LSt → LSt
  | [] => []
  | _ :: r => none :: r
def st2 : LSt → Nat → AV → LSt
  | [], _, _ => []
  | _ :: r, 0, v => some v :: nohead r
  | o :: r, i + 1, v => (if i = 0 then nolong o else o) :: st2 r i v
def rnth : List (Option Nat) → Nat → Option (Option Nat)
  | [], _ => none
  | o :: _, 0 => some o
  | _ :: r, i + 1 => rnth r i
/-- a constant pool's entry: 0 a field (class, number, boolean), 1 an int, 2 a long, 3 a static array's place, 4 System.arraycopy -/
abbrev CE : Type := Nat × Int × Nat × Bool
def gfV (sh : Nat × Nat × List (Option Nat)) (σ : HP) (p ci k : Nat) : Option AV := match sh with
  | (4, cj, rs) => if cj = ci then (match rnth rs k with
    | some (some q) => some (.inr (.inl q))
    | some none => some (.inl (σ p k))
    | none => none) else none
  | _ => none
def pfV (sh : Nat × Nat × List (Option Nat)) (ci k : Nat) : Bool := match sh with
  | (4, cj, rs) => if cj = ci then (match rnth rs k with
    | some none => true
    | _ => false) else false
  | _ => false
def cpF (e : Option CE) : Option (Nat × Nat) := match e with
  | some (0, ci, f, _) => some (ci.toNat, f)
  | some (5, ci, f, _) => some (ci.toNat, f)
  | _ => none
def cpP (e : Option CE) : Option (Nat × Nat × Bool) := match e with
  | some (5, ci, f, b) => some (ci.toNat, f, b)
  | _ => none
def gfX (e : Option (Nat × Nat)) (st : List AV) (σ : HP) (k : List AV → Prop) : Prop := match e with
  | some (ci, f) => (match st with
    | .inr (.inl p) :: r => p < 76 ∧ (match gfV (SH p) σ p ci f with | some v => k (v :: r) | none => False)
    | _ => False)
  | none => False
def pfX (e : Option (Nat × Nat × Bool)) (st : List AV) (σ : HP) (k : List AV → HP → Prop) : Prop := match e with
  | some (ci, f, b) => (match st with
    | .inl v :: .inr (.inl p) :: r => p < 76 ∧ pfV (SH p) ci f = true ∧ (b = true → v = 0 ∨ v = 1) ∧ k r (hset σ p f v)
    | _ => False)
  | none => False
def cndZ (c : Jvm.ClassFile.Cond) (x y : Int) : Prop := match c with
  | .eq => x = y
  | .ne => ¬ x = y
  | .lt => x < y
  | .ge => y ≤ x
  | .gt => y < x
  | .le => x ≤ y
def tgo (pc : Nat) (off : Int) (k : Nat → Prop) : Prop := 0 ≤ (pc : Int) + off ∧ k ((pc : Int) + off).toNat
def tsw (pc : Nat) (x : Int) (k : Nat → Prop) : Int → List Int → Prop
  | _, [] => True
  | lo, o :: r => (x = lo → tgo pc o k) ∧ tsw pc x k (lo + 1) r
def lsw (pc : Nat) (x : Int) (d : Int) (k : Nat → Prop) : List (Int × Int) → Prop
  | [] => tgo pc d k
  | (a, o) :: r => (x = a → tgo pc o k) ∧ (¬ x = a → lsw pc x d k r)
def ldI (ls : LSt) (j : Nat) (st : List AV) (k : List AV → Prop) : Prop := match lnth ls j with
  | some (.inl z) => k (.inl z :: st)
  | _ => False
def ldA (ls : LSt) (j : Nat) (st : List AV) (k : List AV → Prop) : Prop := match lnth ls j with
  | some (.inr (.inl z)) => k (.inr (.inl z) :: st)
  | _ => False
def ldL (ls : LSt) (j : Nat) (st : List AV) (k : List AV → Prop) : Prop := match lnth ls j with
  | some (.inr (.inr z)) => k (.inr (.inr z) :: st)
  | _ => False
def stI (ls : LSt) (j : Nat) (st : List AV) (k : LSt → List AV → Prop) : Prop := match st with
  | .inl z :: r => j < ls.length ∧ k (st1 ls j (.inl z)) r
  | _ => False
def stA (ls : LSt) (j : Nat) (st : List AV) (k : LSt → List AV → Prop) : Prop := match st with
  | .inr (.inl z) :: r => j < ls.length ∧ k (st1 ls j (.inr (.inl z))) r
  | _ => False
def stL (ls : LSt) (j : Nat) (st : List AV) (k : LSt → List AV → Prop) : Prop := match st with
  | .inr (.inr z) :: r => j + 1 < ls.length ∧ k (st2 ls j (.inr (.inr z))) r
  | _ => False
def bin (f : Int → Int → Int) (st : List AV) (k : List AV → Prop) : Prop := match st with
  | .inl y :: .inl x :: r => k (.inl (f x y) :: r)
  | _ => False
def binD (f : Int → Int → Int) (st : List AV) (k : List AV → Prop) : Prop := match st with
  | .inl y :: .inl x :: r => R32 x ∧ R32 y ∧ y ≠ 0 ∧ k (.inl (f x y) :: r)
  | _ => False
def binL (f : Int → Int → Int) (st : List AV) (k : List AV → Prop) : Prop := match st with
  | .inr (.inr y) :: .inr (.inr x) :: r => k (.inr (.inr (f x y)) :: r)
  | _ => False
def binDL (f : Int → Int → Int) (st : List AV) (k : List AV → Prop) : Prop := match st with
  | .inr (.inr y) :: .inr (.inr x) :: r => R64 x ∧ R64 y ∧ y ≠ 0 ∧ k (.inr (.inr (f x y)) :: r)
  | _ => False
def una (f : Int → Int) (st : List AV) (k : List AV → Prop) : Prop := match st with
  | .inl x :: r => k (.inl (f x) :: r)
  | _ => False
def lcmpZ (x y : Int) : Int := if y < x then 1 else if x = y then 0 else -1
def zshl (x y : Int) : Int := (iI x <<< (iI y &&& 31)).toInt
def zshr (x y : Int) : Int := (iI x >>> (iI y &&& 31)).toInt
def zand (x y : Int) : Int := (iI x &&& iI y).toInt
def zor (x y : Int) : Int := (iI x ||| iI y).toInt
def zxor (x y : Int) : Int := (iI x ^^^ iI y).toInt
def zi2b (x : Int) : Int := (iI x).toInt8.toInt32.toInt
def zi2s (x : Int) : Int := (iI x).toInt16.toInt32.toInt
def acV (sh : Nat × Nat × List (Option Nat)) (ro : Nat → Option (Nat × (Nat → Int))) (σ : HP) (p : Nat) (i : Int) (k : Int → Prop) : Prop := match sh with
  | (0, n, _) => 0 ≤ i ∧ i < (n : Int) ∧ k (σ p i.toNat)
  | (9, _, _) => (match ro p with
    | some (n, f) => 0 ≤ i ∧ i < (n : Int) ∧ k (f i.toNat)
    | none => False)
  | _ => False
def acK (kd : Nat) (sh : Nat × Nat × List (Option Nat)) (i : Int) (k : Prop) : Prop := sh.1 = kd ∧ 0 ≤ i ∧ i < (sh.2.1 : Int) ∧ k
/-- what comes to be by System.arraycopy -/
def hcpy (σ : HP) (a : Nat) (sp : Int) (b : Nat) (dp n : Int) : HP := fun q j => if q = b ∧ dp.toNat ≤ j ∧ j < dp.toNat + n.toNat then σ a (sp.toNat + (j - dp.toNat)) else σ q j
def acpy (st : List AV) (σ : HP) (k : List AV → HP → Prop) : Prop := match st with
  | .inl n :: .inl dp :: .inr (.inl b) :: .inl sp :: .inr (.inl a) :: r => a < 76 ∧ b < 76 ∧ (SH a).1 = 0 ∧ (SH b).1 = 0 ∧ r.length ≤ 2 ∧ 0 ≤ sp ∧ 0 ≤ dp ∧ 0 ≤ n ∧ sp + n ≤ ((SH a).2.1 : Int) ∧ dp + n ≤ ((SH b).2.1 : Int) ∧ k r (hcpy σ a sp b dp n)
  | _ => False
def inv (mT : Nat → Option (Nat × Bool × MSpec)) (i : Nat) (is : Bool) (st : List AV) (σ : HP) (k : List AV → HP → Prop) : Prop := match mT i with
  | some (n, b, S) => b = is ∧ n ≤ st.length ∧ (st.drop n).length ≤ 4 ∧ S (st.take n).reverse σ (fun r σ' => k (r.toList ++ st.drop n) σ')
  | none => False
def stp (cp : Nat → Option CE) (mT : Nat → Option (Nat × Bool × MSpec)) (ro : Nat → Option (Nat × (Nat → Int))) (rk : Nat) (RT : Option AV → HP → Prop) (i : Instr) (len pc : Nat) (ls : LSt) (st : List AV) (σ : HP) (k : KT) : Prop := match i with
  | .iconst n => k (pc + len) ls (.inl n :: st) σ
  | .bipush n => (-128 ≤ n ∧ n < 128) ∧ k (pc + len) ls (.inl n :: st) σ
  | .sipush n => (-32768 ≤ n ∧ n < 32768) ∧ k (pc + len) ls (.inl n :: st) σ
  | .lconst n => k (pc + len) ls (.inr (.inr (n.val : Int)) :: st) σ
  | .ldc j => (match cp j with | some (1, z, _) => k (pc + len) ls (.inl z :: st) σ | _ => False)
  | .ldc_w j => (match cp j with | some (1, z, _) => k (pc + len) ls (.inl z :: st) σ | _ => False)
  | .ldc2_w j => (match cp j with | some (2, z, _) => k (pc + len) ls (.inr (.inr z) :: st) σ | _ => False)
  | .iload_n j => ldI ls j.val st (fun st => k (pc + len) ls st σ)
  | .iload j => ldI ls j st (fun st => k (pc + len) ls st σ)
  | .aload_n j => ldA ls j.val st (fun st => k (pc + len) ls st σ)
  | .aload j => ldA ls j st (fun st => k (pc + len) ls st σ)
  | .lload_n j => ldL ls j.val st (fun st => k (pc + len) ls st σ)
  | .lload j => ldL ls j st (fun st => k (pc + len) ls st σ)
  | .istore_n j => stI ls j.val st (fun ls st => k (pc + len) ls st σ)
  | .istore j => stI ls j st (fun ls st => k (pc + len) ls st σ)
  | .astore_n j => stA ls j.val st (fun ls st => k (pc + len) ls st σ)
  | .astore j => stA ls j st (fun ls st => k (pc + len) ls st σ)
  | .lstore_n j => stL ls j.val st (fun ls st => k (pc + len) ls st σ)
  | .lstore j => stL ls j st (fun ls st => k (pc + len) ls st σ)
  | .iinc j n => ldI ls j st (fun s2 => match s2 with | .inl z :: _ => j < ls.length ∧ k (pc + len) (st1 ls j (.inl (z + n))) st σ | _ => False)
  | .iadd => bin (fun x y => x + y) st (fun st => k (pc + len) ls st σ)
  | .isub => bin (fun x y => x - y) st (fun st => k (pc + len) ls st σ)
  | .imul => bin (fun x y => x * y) st (fun st => k (pc + len) ls st σ)
  | .ishl => bin zshl st (fun st => k (pc + len) ls st σ)
  | .ishr => bin zshr st (fun st => k (pc + len) ls st σ)
  | .iand => bin zand st (fun st => k (pc + len) ls st σ)
  | .ior => bin zor st (fun st => k (pc + len) ls st σ)
  | .ixor => bin zxor st (fun st => k (pc + len) ls st σ)
  | .idiv => binD Int.tdiv st (fun st => k (pc + len) ls st σ)
  | .irem => binD Int.tmod st (fun st => k (pc + len) ls st σ)
  | .ineg => una (fun x => -x) st (fun st => k (pc + len) ls st σ)
  | .i2b => una zi2b st (fun st => k (pc + len) ls st σ)
  | .i2s => una zi2s st (fun st => k (pc + len) ls st σ)
  | .i2l => (match st with | .inl x :: r => R32 x ∧ k (pc + len) ls (.inr (.inr x) :: r) σ | _ => False)
  | .l2i => (match st with | .inr (.inr x) :: r => k (pc + len) ls (.inl x :: r) σ | _ => False)
  | .ladd => binL (fun x y => x + y) st (fun st => k (pc + len) ls st σ)
  | .lmul => binL (fun x y => x * y) st (fun st => k (pc + len) ls st σ)
  | .ldiv => binDL Int.tdiv st (fun st => k (pc + len) ls st σ)
  | .lrem => binDL Int.tmod st (fun st => k (pc + len) ls st σ)
  | .lcmp => (match st with | .inr (.inr y) :: .inr (.inr x) :: r => R64 x ∧ R64 y ∧ k (pc + len) ls (.inl (lcmpZ x y) :: r) σ | _ => False)
  | .dup => (match st with
    | .inl x :: r => k (pc + len) ls (.inl x :: .inl x :: r) σ
    | .inr (.inl x) :: r => k (pc + len) ls (.inr (.inl x) :: .inr (.inl x) :: r) σ
    | _ => False)
  | .pop => (match st with
    | .inl _ :: r => k (pc + len) ls r σ
    | .inr (.inl _) :: r => k (pc + len) ls r σ
    | _ => False)
  | .dup2 => (match st with
    | .inl y :: .inr (.inl x) :: r => k (pc + len) ls (.inl y :: .inr (.inl x) :: .inl y :: .inr (.inl x) :: r) σ
    | _ => False)
  | .goto o => tgo pc o (fun q => k q ls st σ)
  | .ifCond c o => (match st with
    | .inl x :: r => R32 x ∧ 0 ≤ (pc : Int) + o ∧ (cndZ c x 0 → k ((pc : Int) + o).toNat ls r σ) ∧ (¬ cndZ c x 0 → k (pc + len) ls r σ)
    | _ => False)
  | .if_icmp c o => (match st with
    | .inl y :: .inl x :: r => R32 x ∧ R32 y ∧ 0 ≤ (pc : Int) + o ∧ (cndZ c x y → k ((pc : Int) + o).toNat ls r σ) ∧ (¬ cndZ c x y → k (pc + len) ls r σ)
    | _ => False)
  | .tableswitch d lo hi os => (match st with
    | .inl x :: r => R32 x ∧ hi + 1 = lo + (os.size : Int) ∧ (x < lo ∨ hi < x → tgo pc d (fun q => k q ls r σ)) ∧ tsw pc x (fun q => k q ls r σ) lo os.toList
    | _ => False)
  | .lookupswitch d ps => (match st with
    | .inl x :: r => R32 x ∧ (ps.toList.zip (ps.toList.drop 1)).all (fun (a, next) => a.1 < next.1) = true ∧ lsw pc x d (fun q => k q ls r σ) ps.toList
    | _ => False)
  | .getfield j => gfX (cpF (cp j)) st σ (fun st => k (pc + len) ls st σ)
  | .putfield j => pfX (cpP (cp j)) st σ (fun st σ => k (pc + len) ls st σ)
  | .getstatic j => (match cp j with
    | some (3, _, p, _) => k (pc + len) ls (.inr (.inl p) :: st) σ
    | _ => False)
  | .iaload => (match st with
    | .inl i :: .inr (.inl p) :: r => acV (SH p) ro σ p i (fun v => k (pc + len) ls (.inl v :: r) σ)
    | _ => False)
  | .laload => (match st with
    | .inl i :: .inr (.inl p) :: r => p < 76 ∧ acK 1 (SH p) i (k (pc + len) ls (.inr (.inr (σ p i.toNat)) :: r) σ)
    | _ => False)
  | .baload => (match st with
    | .inl i :: .inr (.inl p) :: r => p < 76 ∧ acK 2 (SH p) i (k (pc + len) ls (.inl (σ p i.toNat) :: r) σ)
    | _ => False)
  | .aaload => (match st with
    | .inl i :: .inr (.inl p) :: r => p < 76 ∧ acK 3 (SH p) i (match rnth (SH p).2.2 i.toNat with | some (some q) => k (pc + len) ls (.inr (.inl q) :: r) σ | _ => False)
    | _ => False)
  | .iastore => (match st with
    | .inl v :: .inl i :: .inr (.inl p) :: r => p < 76 ∧ acK 0 (SH p) i (k (pc + len) ls r (hset σ p i.toNat v))
    | _ => False)
  | .lastore => (match st with
    | .inr (.inr v) :: .inl i :: .inr (.inl p) :: r => p < 76 ∧ acK 1 (SH p) i (k (pc + len) ls r (hset σ p i.toNat v))
    | _ => False)
  | .bastore => (match st with
    | .inl v :: .inl i :: .inr (.inl p) :: r => p < 76 ∧ (v = 0 ∨ v = 1) ∧ acK 2 (SH p) i (k (pc + len) ls r (hset σ p i.toNat v))
    | _ => False)
  | .arraylength => (match st with
    | .inr (.inl p) :: r => (match ro p with | some (n, _) => k (pc + len) ls (.inl (n : Int) :: r) σ | none => False)
    | _ => False)
  | .invokestatic j => (match cp j with
    | some (4, _) => acpy st σ (fun st σ => k (pc + len) ls st σ)
    | _ => inv mT j false st σ (fun st σ => k (pc + len) ls st σ))
  | .invokevirtual j => inv mT j true st σ (fun st σ => k (pc + len) ls st σ)
  | .ireturn => (match st with
    | [.inl v] => (rk = 1 ∨ (rk = 2 ∧ (v = 0 ∨ v = 1))) ∧ RT (some (.inl v)) σ
    | _ => False)
  | .lreturn => (match st with
    | [.inr (.inr v)] => rk = 3 ∧ RT (some (.inr (.inr v))) σ
    | _ => False)
  | .areturn => (match st with
    | [.inr (.inl v)] => rk = 4 ∧ RT (some (.inr (.inl v))) σ
    | _ => False)
  | .return_ => (match st with
    | [] => rk = 0 ∧ RT none σ
    | _ => False)
  | _ => False
def ilen (i : Instr) : Nat := match i with
  | .bipush _ => 2
  | .sipush _ => 3
  | .ldc _ => 2
  | .ldc_w _ => 3
  | .ldc2_w _ => 3
  | .iload _ => 2
  | .aload _ => 2
  | .lload _ => 2
  | .istore _ => 2
  | .astore _ => 2
  | .lstore _ => 2
  | .iinc _ _ => 3
  | .goto _ => 3
  | .ifCond _ _ => 3
  | .if_icmp _ _ => 3
  | .tableswitch _ _ _ _ => 0
  | .lookupswitch _ _ => 0
  | .getfield _ => 3
  | .putfield _ => 3
  | .getstatic _ => 3
  | .invokestatic _ => 3
  | .invokevirtual _ => 3
  | _ => 1
def wp (cc : ByteArray) (cp : Nat → Option CE) (mT : Nat → Option (Nat × Bool × MSpec)) (ro : Nat → Option (Nat × (Nat → Int))) (rk : Nat) (RT : Option AV → HP → Prop) (K : KT) (stop : Nat → Bool) : Nat → KT
  | 0, pc, ls, st, σ => K pc ls st σ
  | n + 1, pc, ls, st, σ => match decode cc pc with
    | .ok (i, len) => (ilen i = 0 ∨ ilen i = len) ∧ stp cp mT ro rk RT i len pc ls st σ (fun pc' ls' st' σ' => if stop pc' = true then K pc' ls' st' σ' else wp cc cp mT ro rk RT K stop n pc' ls' st' σ')
    | .error _ => False
