/-! THE SMALL MACHINE. Kp: the script's length, the arrays of 64 bits, whether every static reference is set, the number of objects, of cells made, of slots made -/
abbrev Kp : Type := Nat × (Nat → UInt64) × Bool × Nat × Nat × Nat
abbrev St : Type := Nat × List Value × List Value × Mem × Kp
abbrev Ou : Type := (Option Value ⊕ Nat) × Mem × Kp
/-- a local that can't be read -/
abbrev UU : Value := .retAddr 0
def stM (M : Mem) (k j : Nat) (v : Int32) : Mem := fun k' j' => if k' = k ∧ j' = j then v else M k' j'
def stX (X : Nat → UInt64) (k : Nat) (v : UInt64) : Nat → UInt64 := fun k' => if k' = k then v else X k'
abbrev kL (κ : Kp) : Nat := κ.1
abbrev kX (κ : Kp) : Nat → UInt64 := κ.2.1
abbrev kR (κ : Kp) : Bool := κ.2.2.1
abbrev kN (κ : Kp) : Nat := κ.2.2.2.1
abbrev kC (κ : Kp) : Nat := κ.2.2.2.2.1
abbrev kU (κ : Kp) : Nat := κ.2.2.2.2.2
/-- locals: a value comes in at i; what a long there or before held is gone -/
def dropL (ls : List Value) (i : Nat) : List Value := match i with
  | 0 => ls
  | j + 1 => match ls[j]? with
    | some (.long _) => ls.set j UU
    | some (.double _) => ls.set j UU
    | _ => ls
def setl (ls : List Value) (i : Nat) (v : Value) : List Value := if v.category = 2 then ((dropL ls i).set i v).set (i + 1) UU else (dropL ls i).set i v
/-- what is known of the locals may be forgotten -/
def lle (l1 l2 : List Value) : Prop := l1.length = l2.length ∧ ∀ (i : Nat) (v : Value), l1[i]? = some v → v = UU ∨ l2[i]? = some v
def ldOk : Instr → Value → Bool
  | .iload_n _, .int _ => true
  | .iload _, .int _ => true
  | .aload_n _, .ref _ => true
  | .aload _, .ref _ => true
  | .lload_n _, .long _ => true
  | .lload _, .long _ => true
  | .dload_n _, .double _ => true
  | .dload _, .double _ => true
  | _, _ => false
def stOk : Instr → Value → Bool
  | .istore_n _, .int _ => true
  | .istore _, .int _ => true
  | .astore_n _, .ref _ => true
  | .astore _, .ref _ => true
  | .lstore_n _, .long _ => true
  | .lstore _, .long _ => true
  | .dstore_n _, .double _ => true
  | .dstore _, .double _ => true
  | _, _ => false
def isPush : Instr → Bool
  | .iconst _ => true
  | .bipush _ => true
  | .sipush _ => true
  | .ldc _ => true
  | _ => false
def bop : Instr → Option (Int32 → Int32 → Int32)
  | .iadd => some (fun x y => x + y)
  | .isub => some (fun x y => x - y)
  | .imul => some (fun x y => x * y)
  | .iand => some (fun x y => x &&& y)
  | _ => none
def dop : Instr → Option (Int32 → Int32 → Int32)
  | .idiv => some (fun x y => x / y)
  | .irem => some (fun x y => x - x / y * y)
  | _ => none
def cnd0 : Jvm.ClassFile.Cond → Int32 → Prop
  | .eq, x => x = 0
  | .ne, x => ¬ x = 0
  | .lt, x => x < 0
  | .ge, x => 0 ≤ x
  | .gt, x => 0 < x
  | .le, x => x ≤ 0
def cnd2 : Jvm.ClassFile.Cond → Int32 → Int32 → Prop
  | .eq, x, y => x = y
  | .ne, x, y => ¬ x = y
  | .lt, x, y => x < y
  | .ge, x, y => y ≤ x
  | .gt, x, y => y < x
  | .le, x, y => x ≤ y
/-- is this slot a reference that is the same one whenever it is set -/
def sref (k j : Nat) : Bool := if kd k ≤ 7 then fty (kd k) j == 1 else (kd k == 22 || kd k == 23) && decide (j < 6)
def WF (M : Mem) : Prop := ∀ k j, sref k j = true → M k j ≠ 0
def isB (v : Int32) : Bool := v == 0 || v == 1
abbrev PT : Type := Nat → St → Ou → Prop
def entL (y : Nat) (av : List Value) : List Value := av ++ List.replicate (mL y - av.length) UU
def c1s (l : List Value) : Bool := l.all (fun v => v.category == 1)
abbrev rm8 (l : List Value) : Prop := (l.map fun v => v.category).sum ≤ 8
def tgtOk (pc : Nat) (i : Instr) (x : Int32) (tgt : Nat) : Bool := match i with
  | .tableswitch d lo hi offs => if x.toInt < lo ∨ hi < x.toInt then decide ((pc : Int) + d = (tgt : Int)) else decide (offs[(x.toInt - lo).toNat]?.map (fun o => (pc : Int) + o) = some (tgt : Int))
  | _ => false
/-- which object a virtual call's callee wants -/
def vcls (y : Nat) (v : Value) : Bool := match v with
  | .ref k => kd k == oc y
  | _ => false
def cl_push (P : PT) : Prop := ∀ (z pc : Nat) (ls st : List Value) (M : Mem) (κ : Kp) (out : Ou) (i : Instr) (nx p q r : Nat) (x : Int32), ins z pc = some (i, nx, p, q, r, x) → isPush i = true → P z (nx, ls, .int x :: st, M, κ) out → P z (pc, ls, st, M, κ) out
def cl_lpush (P : PT) : Prop := ∀ (z pc : Nat) (ls st : List Value) (M : Mem) (κ : Kp) (out : Ou) (nx p q r : Nat) (x : Int32), ins z pc = some (.lconst 0, nx, p, q, r, x) → P z (nx, ls, .long 0 :: st, M, κ) out → P z (pc, ls, st, M, κ) out
def cl_dpush (P : PT) : Prop := ∀ (z pc : Nat) (ls st : List Value) (M : Mem) (κ : Kp) (out : Ou) (nx p q r : Nat) (x : Int32), ins z pc = some (.dconst 0, nx, p, q, r, x) → P z (nx, ls, .double 0 :: st, M, κ) out → P z (pc, ls, st, M, κ) out
def cl_load (P : PT) : Prop := ∀ (z pc : Nat) (ls st : List Value) (M : Mem) (κ : Kp) (out : Ou) (i : Instr) (nx p q r : Nat) (x : Int32) (v : Value), ins z pc = some (i, nx, p, q, r, x) → ldOk i v = true → ls[p]? = some v → P z (nx, ls, v :: st, M, κ) out → P z (pc, ls, st, M, κ) out
def cl_store (P : PT) : Prop := ∀ (z pc : Nat) (ls st : List Value) (M : Mem) (κ : Kp) (out : Ou) (i : Instr) (nx p q r : Nat) (x : Int32) (v : Value), ins z pc = some (i, nx, p, q, r, x) → stOk i v = true → p + v.category ≤ ls.length → P z (nx, setl ls p v, st, M, κ) out → P z (pc, ls, v :: st, M, κ) out
def cl_iinc (P : PT) : Prop := ∀ (z pc : Nat) (ls st : List Value) (M : Mem) (κ : Kp) (out : Ou) (nx p q r : Nat) (x : Int32) (a : Nat) (b : Int) (y : Int32), ins z pc = some (.iinc a b, nx, p, q, r, x) → ls[p]? = some (.int y) → P z (nx, setl ls p (.int (y + x)), st, M, κ) out → P z (pc, ls, st, M, κ) out
def cl_bin (P : PT) : Prop := ∀ (z pc : Nat) (ls st : List Value) (M : Mem) (κ : Kp) (out : Ou) (i : Instr) (nx p q r : Nat) (x : Int32) (f : Int32 → Int32 → Int32) (a b : Int32), ins z pc = some (i, nx, p, q, r, x) → bop i = some f → P z (nx, ls, .int (f a b) :: st, M, κ) out → P z (pc, ls, .int b :: .int a :: st, M, κ) out
def cl_div (P : PT) : Prop := ∀ (z pc : Nat) (ls st : List Value) (M : Mem) (κ : Kp) (out : Ou) (i : Instr) (nx p q r : Nat) (x : Int32) (f : Int32 → Int32 → Int32) (a b : Int32), ins z pc = some (i, nx, p, q, r, x) → dop i = some f → ¬ b = 0 → P z (nx, ls, .int (f a b) :: st, M, κ) out → P z (pc, ls, .int b :: .int a :: st, M, κ) out
def cl_neg (P : PT) : Prop := ∀ (z pc : Nat) (ls st : List Value) (M : Mem) (κ : Kp) (out : Ou) (nx p q r : Nat) (x : Int32) (a : Int32), ins z pc = some (.ineg, nx, p, q, r, x) → P z (nx, ls, .int (-a) :: st, M, κ) out → P z (pc, ls, .int a :: st, M, κ) out
def cl_i2l (P : PT) : Prop := ∀ (z pc : Nat) (ls st : List Value) (M : Mem) (κ : Kp) (out : Ou) (nx p q r : Nat) (x : Int32) (a : Int32), ins z pc = some (.i2l, nx, p, q, r, x) → P z (nx, ls, .long a.toInt64 :: st, M, κ) out → P z (pc, ls, .int a :: st, M, κ) out
def cl_i2d (P : PT) : Prop := ∀ (z pc : Nat) (ls st : List Value) (M : Mem) (κ : Kp) (out : Ou) (nx p q r : Nat) (x : Int32) (a : Int32), ins z pc = some (.i2d, nx, p, q, r, x) → P z (nx, ls, .double (FP.i2d a) :: st, M, κ) out → P z (pc, ls, .int a :: st, M, κ) out
def cl_lcmp (P : PT) : Prop := ∀ (z pc : Nat) (ls st : List Value) (M : Mem) (κ : Kp) (out : Ou) (nx p q r : Nat) (x : Int32) (a b : Int64), ins z pc = some (.lcmp, nx, p, q, r, x) → P z (nx, ls, .int (lg_cmp a b) :: st, M, κ) out → P z (pc, ls, .long b :: .long a :: st, M, κ) out
def cl_lor (P : PT) : Prop := ∀ (z pc : Nat) (ls st : List Value) (M : Mem) (κ : Kp) (out : Ou) (nx p q r : Nat) (x : Int32) (a b : Int64), ins z pc = some (.lor, nx, p, q, r, x) → P z (nx, ls, .long (a ||| b) :: st, M, κ) out → P z (pc, ls, .long b :: .long a :: st, M, κ) out
def cl_lshl (P : PT) : Prop := ∀ (z pc : Nat) (ls st : List Value) (M : Mem) (κ : Kp) (out : Ou) (nx p q r : Nat) (x : Int32) (a : Int64) (b : Int32), ins z pc = some (.lshl, nx, p, q, r, x) → P z (nx, ls, .long (a <<< (b.toInt64 &&& 63)) :: st, M, κ) out → P z (pc, ls, .int b :: .long a :: st, M, κ) out
def cl_dcmp (P : PT) : Prop := ∀ (z pc : Nat) (ls st : List Value) (M : Mem) (κ : Kp) (out : Ou) (nx p q r : Nat) (x : Int32) (o : CmpOp) (a b : UInt64), ins z pc = some (.dcmp o, nx, p, q, r, x) → P z (nx, ls, .int (Op.cmpValue (FP.dcmp a b) o) :: st, M, κ) out → P z (pc, ls, .double b :: .double a :: st, M, κ) out
def cl_dmul (P : PT) : Prop := ∀ (z pc : Nat) (ls st : List Value) (M : Mem) (κ : Kp) (out : Ou) (nx p q r : Nat) (x : Int32) (a b : UInt64), ins z pc = some (.dmul, nx, p, q, r, x) → vf_n64 (FP.dmul a b) → P z (nx, ls, .double (FP.dmul a b) :: st, M, κ) out → P z (pc, ls, .double b :: .double a :: st, M, κ) out
def cl_ddiv (P : PT) : Prop := ∀ (z pc : Nat) (ls st : List Value) (M : Mem) (κ : Kp) (out : Ou) (nx p q r : Nat) (x : Int32) (a b : UInt64), ins z pc = some (.ddiv, nx, p, q, r, x) → vf_n64 (FP.ddiv a b) → P z (nx, ls, .double (FP.ddiv a b) :: st, M, κ) out → P z (pc, ls, .double b :: .double a :: st, M, κ) out
def cl_dup (P : PT) : Prop := ∀ (z pc : Nat) (ls st : List Value) (M : Mem) (κ : Kp) (out : Ou) (nx p q r : Nat) (x : Int32) (v : Value), ins z pc = some (.dup, nx, p, q, r, x) → v.category = 1 → P z (nx, ls, v :: v :: st, M, κ) out → P z (pc, ls, v :: st, M, κ) out
def cl_dup2 (P : PT) : Prop := ∀ (z pc : Nat) (ls st : List Value) (M : Mem) (κ : Kp) (out : Ou) (nx p q r : Nat) (x : Int32) (v w : Value), ins z pc = some (.dup2, nx, p, q, r, x) → v.category = 1 → w.category = 1 → P z (nx, ls, v :: w :: v :: w :: st, M, κ) out → P z (pc, ls, v :: w :: st, M, κ) out
def cl_if0 (P : PT) : Prop := ∀ (z pc : Nat) (ls st : List Value) (M : Mem) (κ : Kp) (out : Ou) (nx p q r : Nat) (x : Int32) (c : Jvm.ClassFile.Cond) (o : Int) (a : Int32), ins z pc = some (.ifCond c o, nx, p, q, r, x) → (cnd0 c a → P z (p, ls, st, M, κ) out) → (¬ cnd0 c a → P z (nx, ls, st, M, κ) out) → P z (pc, ls, .int a :: st, M, κ) out
def cl_if2 (P : PT) : Prop := ∀ (z pc : Nat) (ls st : List Value) (M : Mem) (κ : Kp) (out : Ou) (nx p q r : Nat) (x : Int32) (c : Jvm.ClassFile.Cond) (o : Int) (a b : Int32), ins z pc = some (.if_icmp c o, nx, p, q, r, x) → (cnd2 c a b → P z (p, ls, st, M, κ) out) → (¬ cnd2 c a b → P z (nx, ls, st, M, κ) out) → P z (pc, ls, .int b :: .int a :: st, M, κ) out
def cl_goto (P : PT) : Prop := ∀ (z pc : Nat) (ls st : List Value) (M : Mem) (κ : Kp) (out : Ou) (nx p q r : Nat) (x : Int32) (o : Int), ins z pc = some (.goto o, nx, p, q, r, x) → P z (p, ls, st, M, κ) out → P z (pc, ls, st, M, κ) out
def cl_table (P : PT) : Prop := ∀ (z pc : Nat) (ls st : List Value) (M : Mem) (κ : Kp) (out : Ou) (i : Instr) (nx p q r : Nat) (x : Int32) (a : Int32) (tgt : Nat), ins z pc = some (i, nx, p, q, r, x) → tgtOk pc i a tgt = true → P z (tgt, ls, st, M, κ) out → P z (pc, ls, .int a :: st, M, κ) out
def cl_getI (P : PT) : Prop := ∀ (z pc : Nat) (ls st : List Value) (M : Mem) (κ : Kp) (out : Ou) (nx p q r : Nat) (x : Int32) (a k : Nat), ins z pc = some (.getfield a, nx, p, q, r, x) → kd k = p → fty p q = 0 → k < kN κ → P z (nx, ls, .int (M k q) :: st, M, κ) out → P z (pc, ls, .ref k :: st, M, κ) out
def cl_getR (P : PT) : Prop := ∀ (z pc : Nat) (ls st : List Value) (M : Mem) (κ : Kp) (out : Ou) (nx p q r : Nat) (x : Int32) (a k : Nat), ins z pc = some (.getfield a, nx, p, q, r, x) → kd k = p → fty p q = 1 → k < kN κ → (kR κ = true ∨ M k q ≠ 0) → P z (nx, ls, .ref (k + off p q) :: st, M, κ) out → P z (pc, ls, .ref k :: st, M, κ) out
def cl_getD (P : PT) : Prop := ∀ (z pc : Nat) (ls st : List Value) (M : Mem) (κ : Kp) (out : Ou) (nx p q r : Nat) (x : Int32) (a k d : Nat), ins z pc = some (.getfield a, nx, p, q, r, x) → kd k = p → fty p q = 2 → k < kN κ → M k q = nI d → 0 < d → d < 200 → P z (nx, ls, .ref d :: st, M, κ) out → P z (pc, ls, .ref k :: st, M, κ) out
def cl_putI (P : PT) : Prop := ∀ (z pc : Nat) (ls st : List Value) (M : Mem) (κ : Kp) (out : Ou) (nx p q r : Nat) (x : Int32) (a k : Nat) (v : Int32), ins z pc = some (.putfield a, nx, p, q, r, x) → kd k = p → fty p q = 0 → k < kN κ → (fbo p q = 1 → isB v = true) → P z (nx, ls, st, stM M k q v, κ) out → P z (pc, ls, .int v :: .ref k :: st, M, κ) out
def cl_putR (P : PT) : Prop := ∀ (z pc : Nat) (ls st : List Value) (M : Mem) (κ : Kp) (out : Ou) (nx p q r : Nat) (x : Int32) (a k d : Nat), ins z pc = some (.putfield a, nx, p, q, r, x) → kd k = p → fty p q = 1 → k < kN κ → d = k + off p q → isI z = true → oc z = p → P z (nx, ls, st, stM M k q 1, κ) out → P z (pc, ls, .ref d :: .ref k :: st, M, κ) out
def cl_putD (P : PT) : Prop := ∀ (z pc : Nat) (ls st : List Value) (M : Mem) (κ : Kp) (out : Ou) (nx p q r : Nat) (x : Int32) (a k d : Nat), ins z pc = some (.putfield a, nx, p, q, r, x) → kd k = p → fty p q = 2 → k < kN κ → 0 < d → d < 200 → P z (nx, ls, st, stM M k q (nI d), κ) out → P z (pc, ls, .ref d :: .ref k :: st, M, κ) out
def cl_iald (P : PT) : Prop := ∀ (z pc : Nat) (ls st : List Value) (M : Mem) (κ : Kp) (out : Ou) (nx p q r : Nat) (x : Int32) (k : Nat) (a : Int32), ins z pc = some (.iaload, nx, p, q, r, x) → kd k = 20 → k < kN κ → vp_in a (ln k) → P z (nx, ls, .int (M k a.toNatClampNeg) :: st, M, κ) out → P z (pc, ls, .int a :: .ref k :: st, M, κ) out
def cl_sald (P : PT) : Prop := ∀ (z pc : Nat) (ls st : List Value) (M : Mem) (κ : Kp) (out : Ou) (nx p q r : Nat) (x : Int32) (a : Int32), ins z pc = some (.iaload, nx, p, q, r, x) → vp_in a (kL κ) → P z (nx, ls, .int (M 999 a.toNatClampNeg) :: st, M, κ) out → P z (pc, ls, .int a :: .ref 999 :: st, M, κ) out
def cl_slen (P : PT) : Prop := ∀ (z pc : Nat) (ls st : List Value) (M : Mem) (κ : Kp) (out : Ou) (nx p q r : Nat) (x : Int32), ins z pc = some (.arraylength, nx, p, q, r, x) → P z (nx, ls, .int (Int32.ofNat (kL κ)) :: st, M, κ) out → P z (pc, ls, .ref 999 :: st, M, κ) out
def cl_alen (P : PT) : Prop := ∀ (z pc : Nat) (ls st : List Value) (M : Mem) (κ : Kp) (out : Ou) (nx p q r : Nat) (x : Int32) (k : Nat), ins z pc = some (.arraylength, nx, p, q, r, x) → kd k = 20 → k < kN κ → P z (nx, ls, .int (Int32.ofNat (ln k)) :: st, M, κ) out → P z (pc, ls, .ref k :: st, M, κ) out
def cl_zald (P : PT) : Prop := ∀ (z pc : Nat) (ls st : List Value) (M : Mem) (κ : Kp) (out : Ou) (nx p q r : Nat) (x : Int32) (k : Nat) (a : Int32), ins z pc = some (.baload, nx, p, q, r, x) → kd k = 21 → k < kN κ → vp_in a (ln k) → P z (nx, ls, .int (M k a.toNatClampNeg) :: st, M, κ) out → P z (pc, ls, .int a :: .ref k :: st, M, κ) out
def cl_aald (P : PT) : Prop := ∀ (z pc : Nat) (ls st : List Value) (M : Mem) (κ : Kp) (out : Ou) (nx p q r : Nat) (x : Int32) (k : Nat) (a : Int32), ins z pc = some (.aaload, nx, p, q, r, x) → (kd k = 22 ∨ kd k = 23) → k < kN κ → vp_in a 6 → (kR κ = true ∨ M k a.toNatClampNeg ≠ 0) → P z (nx, ls, .ref (elb k + 18 * a.toNatClampNeg) :: st, M, κ) out → P z (pc, ls, .int a :: .ref k :: st, M, κ) out
def cl_lald (P : PT) : Prop := ∀ (z pc : Nat) (ls st : List Value) (M : Mem) (κ : Kp) (out : Ou) (nx p q r : Nat) (x : Int32) (k : Nat) (a : Int32), ins z pc = some (.laload, nx, p, q, r, x) → kd k = 24 → k < kN κ → vp_in a 1 → P z (nx, ls, .long (kX κ k).toInt64 :: st, M, κ) out → P z (pc, ls, .int a :: .ref k :: st, M, κ) out
def cl_dald (P : PT) : Prop := ∀ (z pc : Nat) (ls st : List Value) (M : Mem) (κ : Kp) (out : Ou) (nx p q r : Nat) (x : Int32) (k : Nat) (a : Int32), ins z pc = some (.daload, nx, p, q, r, x) → kd k = 25 → k < kN κ → vp_in a 1 → P z (nx, ls, .double (kX κ k) :: st, M, κ) out → P z (pc, ls, .int a :: .ref k :: st, M, κ) out
def cl_iast (P : PT) : Prop := ∀ (z pc : Nat) (ls st : List Value) (M : Mem) (κ : Kp) (out : Ou) (nx p q r : Nat) (x : Int32) (k : Nat) (a v : Int32), ins z pc = some (.iastore, nx, p, q, r, x) → kd k = 20 → k < kN κ → vp_in a (ln k) → P z (nx, ls, st, stM M k a.toNatClampNeg v, κ) out → P z (pc, ls, .int v :: .int a :: .ref k :: st, M, κ) out
def cl_zast (P : PT) : Prop := ∀ (z pc : Nat) (ls st : List Value) (M : Mem) (κ : Kp) (out : Ou) (nx p q r : Nat) (x : Int32) (k : Nat) (a v : Int32), ins z pc = some (.bastore, nx, p, q, r, x) → kd k = 21 → k < kN κ → vp_in a (ln k) → isB v = true → P z (nx, ls, st, stM M k a.toNatClampNeg v, κ) out → P z (pc, ls, .int v :: .int a :: .ref k :: st, M, κ) out
def cl_aast (P : PT) : Prop := ∀ (z pc : Nat) (ls st : List Value) (M : Mem) (κ : Kp) (out : Ou) (nx p q r : Nat) (x : Int32) (k d : Nat) (a : Int32), ins z pc = some (.aastore, nx, p, q, r, x) → (kd k = 22 ∨ kd k = 23) → k < kN κ → d < kN κ → vp_in a 6 → d = elb k + 18 * a.toNatClampNeg → kd d = (if kd k = 22 then 0 else 5) → P z (nx, ls, st, stM M k a.toNatClampNeg 1, κ) out → P z (pc, ls, .ref d :: .int a :: .ref k :: st, M, κ) out
def cl_last (P : PT) : Prop := ∀ (z pc : Nat) (ls st : List Value) (M : Mem) (κ : Kp) (out : Ou) (nx p q r : Nat) (x : Int32) (k : Nat) (a : Int32) (v : Int64), ins z pc = some (.lastore, nx, p, q, r, x) → kd k = 24 → k < kN κ → vp_in a 1 → P z (nx, ls, st, M, (κ.1, stX (kX κ) k v.toUInt64, κ.2.2)) out → P z (pc, ls, .long v :: .int a :: .ref k :: st, M, κ) out
def cl_dast (P : PT) : Prop := ∀ (z pc : Nat) (ls st : List Value) (M : Mem) (κ : Kp) (out : Ou) (nx p q r : Nat) (x : Int32) (k : Nat) (a : Int32) (v : UInt64), ins z pc = some (.dastore, nx, p, q, r, x) → kd k = 25 → k < kN κ → vp_in a 1 → P z (nx, ls, st, M, (κ.1, stX (kX κ) k v, κ.2.2)) out → P z (pc, ls, .double v :: .int a :: .ref k :: st, M, κ) out
def cl_new (P : PT) : Prop := ∀ (z pc : Nat) (ls st : List Value) (M : Mem) (κ : Kp) (out : Ou) (nx p q r : Nat) (x : Int32) (a : Nat), ins z pc = some (.new a, nx, p, q, r, x) → q = 0 → kR κ = false → kd (kN κ) = p → p ≤ 7 → (∀ j, M (kN κ) j = 0) → P z (nx, ls, .ref (kN κ) :: st, M, (κ.1, κ.2.1, κ.2.2.1, kN κ + 1, kC κ + 1, kU κ + nf p)) out → P z (pc, ls, st, M, κ) out
def cl_newa (P : PT) : Prop := ∀ (z pc : Nat) (ls st : List Value) (M : Mem) (κ : Kp) (out : Ou) (nx p q r : Nat) (x : Int32) (t : ArrayType) (n : Int32), ins z pc = some (.newarray t, nx, p, q, r, x) → kR κ = false → kd (kN κ) = p → 20 ≤ p → p ≠ 22 → p ≠ 23 → n.toNatClampNeg = ln (kN κ) → ¬ n < 0 → (∀ j, M (kN κ) j = 0) → (24 ≤ p → kX κ (kN κ) = 0) → P z (nx, ls, .ref (kN κ) :: st, M, (κ.1, κ.2.1, κ.2.2.1, kN κ + 1, kC κ + 1, kU κ + ln (kN κ))) out → P z (pc, ls, .int n :: st, M, κ) out
def cl_anew (P : PT) : Prop := ∀ (z pc : Nat) (ls st : List Value) (M : Mem) (κ : Kp) (out : Ou) (nx p q r : Nat) (x : Int32) (a : Nat), ins z pc = some (.anewarray a, nx, p, q, r, x) → kR κ = false → kd (kN κ) = p → (p = 22 ∨ p = 23) → (∀ j, M (kN κ) j = 0) → P z (nx, ls, .ref (kN κ) :: st, M, (κ.1, κ.2.1, κ.2.2.1, kN κ + 1, kC κ + 1, kU κ + 6)) out → P z (pc, ls, .int 6 :: st, M, κ) out
def cl_oinit (P : PT) : Prop := ∀ (z pc : Nat) (ls st : List Value) (M : Mem) (κ : Kp) (out : Ou) (nx p q r : Nat) (x : Int32) (a k : Nat), ins z pc = some (.invokespecial a, nx, p, q, r, x) → q = 9 → rm8 st → P z (nx, ls, st, M, κ) out → P z (pc, ls, .ref k :: st, M, κ) out
def cl_ready (P : PT) : Prop := ∀ (z pc : Nat) (ls st : List Value) (M : Mem) (κ : Kp) (out : Ou), WF M → kN κ = 180 → P z (pc, ls, st, M, (κ.1, κ.2.1, true, κ.2.2.2)) out → P z (pc, ls, st, M, κ) out
def cl_weak (P : PT) : Prop := ∀ (z pc : Nat) (ls st : List Value) (M : Mem) (κ : Kp) (out : Ou) (l1 : List Value), lle l1 ls → P z (pc, l1, st, M, κ) out → P z (pc, ls, st, M, κ) out
def cl_call (P : PT) : Prop := ∀ (z pc : Nat) (ls st : List Value) (M : Mem) (κ : Kp) (out : Ou) (i : Instr) (nx y q r : Nat) (x : Int32) (av rest : List Value) (v : Option Value) (M1 : Mem) (κ1 : Kp), ins z pc = some (i, nx, y, q, r, x) → ik i ≠ 3 → y < 164 → q < 6 → st = av.reverse ++ rest → av.length = r → c1s av = true → rm8 rest → (kOf q ≠ 1 → ∃ k as, av = .ref k :: as ∧ kd k = oc y ∧ k < kN κ) → P y (0, entL y av, [], M, κ) (.inl v, M1, κ1) → P z (nx, ls, v.toList ++ rest, M1, κ1) out → P z (pc, ls, st, M, κ) out
def cl_callT (P : PT) : Prop := ∀ (z pc : Nat) (ls st : List Value) (M : Mem) (κ : Kp) (out : Ou) (i : Instr) (nx y q r : Nat) (x : Int32) (av rest : List Value) (e : Nat) (M1 : Mem) (κ1 : Kp), ins z pc = some (i, nx, y, q, r, x) → ik i ≠ 3 → y < 164 → q < 6 → st = av.reverse ++ rest → av.length = r → c1s av = true → rm8 rest → (kOf q ≠ 1 → ∃ k as, av = .ref k :: as ∧ kd k = oc y ∧ k < kN κ) → q = 0 → z < 166 → hh z = [] → P y (0, entL y av, [], M, κ) (.inr e, M1, κ1) → P z (pc, ls, st, M, κ) (.inr e, M1, κ1)
def cl_callC (P : PT) : Prop := ∀ (z pc : Nat) (ls st : List Value) (M : Mem) (κ : Kp) (out : Ou) (i : Instr) (nx y q r : Nat) (x : Int32) (av rest : List Value) (e n hp : Nat) (M1 : Mem) (κ1 : Kp) (w : Int32), ins z pc = some (i, nx, y, q, r, x) → ik i ≠ 3 → y < 164 → q < 6 → st = av.reverse ++ rest → av.length = r → c1s av = true → rm8 rest → (kOf q ≠ 1 → ∃ k as, av = .ref k :: as ∧ kd k = oc y ∧ k < kN κ) → q = 0 → z < 166 → (z, e, w, n, hp) ∈ hdL → P y (0, entL y av, [], M, κ) (.inr e, M1, κ1) → P z (pc, ls, st, M, κ) (.inl (some (.int w)), M1, κ1)
def cl_mmax (P : PT) : Prop := ∀ (z pc : Nat) (ls st : List Value) (M : Mem) (κ : Kp) (out : Ou) (i : Instr) (nx q r : Nat) (x a b : Int32), ins z pc = some (i, nx, 164, q, r, x) → ik i = 1 → q < 6 → (st.map fun v => v.category).sum ≤ 4 → P z (nx, ls, .int (if a < b then b else a) :: st, M, κ) out → P z (pc, ls, .int b :: .int a :: st, M, κ) out
def cl_mabs (P : PT) : Prop := ∀ (z pc : Nat) (ls st : List Value) (M : Mem) (κ : Kp) (out : Ou) (i : Instr) (nx q r : Nat) (x a : Int32), ins z pc = some (i, nx, 165, q, r, x) → ik i = 1 → q < 6 → (st.map fun v => v.category).sum ≤ 4 → P z (nx, ls, .int (if 0 ≤ a then a else 0 - a) :: st, M, κ) out → P z (pc, ls, .int a :: st, M, κ) out
def cl_throw (P : PT) : Prop := ∀ (z pc : Nat) (ls st : List Value) (M : Mem) (κ : Kp) (out : Ou) (nx p q r : Nat) (x : Int32) (a : Nat), ins z pc = some (.new a, nx, p, q, r, x) → q = 1 → kR κ = true → z < 166 → hh z = [] → rm8 st → P z (pc, ls, st, M, κ) (.inr p, M, (κ.1, κ.2.1, κ.2.2.1, kN κ, kC κ + 1, kU κ + 6))
def cl_iret (P : PT) : Prop := ∀ (z pc : Nat) (ls st : List Value) (M : Mem) (κ : Kp) (out : Ou) (nx p q r : Nat) (x : Int32) (v : Int32), ins z pc = some (.ireturn, nx, p, q, r, x) → (rt z = some .int ∨ (rt z = some .boolean ∧ isB v = true)) → P z (pc, ls, [.int v], M, κ) (.inl (some (.int v)), M, κ)
def cl_lret (P : PT) : Prop := ∀ (z pc : Nat) (ls st : List Value) (M : Mem) (κ : Kp) (out : Ou) (nx p q r : Nat) (x : Int32) (v : Int64), ins z pc = some (.lreturn, nx, p, q, r, x) → rt z = some .long → P z (pc, ls, [.long v], M, κ) (.inl (some (.long v)), M, κ)
def cl_dret (P : PT) : Prop := ∀ (z pc : Nat) (ls st : List Value) (M : Mem) (κ : Kp) (out : Ou) (nx p q r : Nat) (x : Int32) (v : UInt64), ins z pc = some (.dreturn, nx, p, q, r, x) → rt z = some .double → P z (pc, ls, [.double v], M, κ) (.inl (some (.double v)), M, κ)
def cl_vret (P : PT) : Prop := ∀ (z pc : Nat) (ls st : List Value) (M : Mem) (κ : Kp) (out : Ou) (nx p q r : Nat) (x : Int32), ins z pc = some (.return_, nx, p, q, r, x) → rt z = none → P z (pc, ls, [], M, κ) (.inl none, M, κ)
/-- closed under every clause -/
def Cl (P : PT) : Prop := cl_push P ∧ cl_lpush P ∧ cl_dpush P ∧ cl_load P ∧ cl_store P ∧ cl_iinc P ∧ cl_bin P ∧ cl_div P ∧ cl_neg P ∧ cl_i2l P ∧ cl_i2d P ∧ cl_lcmp P ∧ cl_lor P ∧ cl_lshl P ∧ cl_dcmp P ∧ cl_dmul P ∧ cl_ddiv P ∧ cl_dup P ∧ cl_dup2 P ∧ cl_if0 P ∧ cl_if2 P ∧ cl_goto P ∧ cl_table P ∧ cl_getI P ∧ cl_getR P ∧ cl_getD P ∧ cl_putI P ∧ cl_putR P ∧ cl_putD P ∧ cl_iald P ∧ cl_sald P ∧ cl_slen P ∧ cl_alen P ∧ cl_zald P ∧ cl_aald P ∧ cl_lald P ∧ cl_dald P ∧ cl_iast P ∧ cl_zast P ∧ cl_aast P ∧ cl_last P ∧ cl_dast P ∧ cl_new P ∧ cl_newa P ∧ cl_anew P ∧ cl_oinit P ∧ cl_ready P ∧ cl_weak P ∧ cl_call P ∧ cl_callT P ∧ cl_callC P ∧ cl_mmax P ∧ cl_mabs P ∧ cl_throw P ∧ cl_iret P ∧ cl_lret P ∧ cl_dret P ∧ cl_vret P
theorem Cl.push {P : PT} (h : Cl P) : cl_push P := h.1
theorem Cl.lpush {P : PT} (h : Cl P) : cl_lpush P := h.2.1
theorem Cl.dpush {P : PT} (h : Cl P) : cl_dpush P := h.2.2.1
theorem Cl.load {P : PT} (h : Cl P) : cl_load P := h.2.2.2.1
theorem Cl.store {P : PT} (h : Cl P) : cl_store P := h.2.2.2.2.1
theorem Cl.iinc {P : PT} (h : Cl P) : cl_iinc P := h.2.2.2.2.2.1
theorem Cl.bin {P : PT} (h : Cl P) : cl_bin P := h.2.2.2.2.2.2.1
theorem Cl.div {P : PT} (h : Cl P) : cl_div P := h.2.2.2.2.2.2.2.1
theorem Cl.neg {P : PT} (h : Cl P) : cl_neg P := h.2.2.2.2.2.2.2.2.1
theorem Cl.i2l {P : PT} (h : Cl P) : cl_i2l P := h.2.2.2.2.2.2.2.2.2.1
theorem Cl.i2d {P : PT} (h : Cl P) : cl_i2d P := h.2.2.2.2.2.2.2.2.2.2.1
theorem Cl.lcmp {P : PT} (h : Cl P) : cl_lcmp P := h.2.2.2.2.2.2.2.2.2.2.2.1
theorem Cl.lor {P : PT} (h : Cl P) : cl_lor P := h.2.2.2.2.2.2.2.2.2.2.2.2.1
theorem Cl.lshl {P : PT} (h : Cl P) : cl_lshl P := h.2.2.2.2.2.2.2.2.2.2.2.2.2.1
theorem Cl.dcmp {P : PT} (h : Cl P) : cl_dcmp P := h.2.2.2.2.2.2.2.2.2.2.2.2.2.2.1
theorem Cl.dmul {P : PT} (h : Cl P) : cl_dmul P := h.2.2.2.2.2.2.2.2.2.2.2.2.2.2.2.1
theorem Cl.ddiv {P : PT} (h : Cl P) : cl_ddiv P := h.2.2.2.2.2.2.2.2.2.2.2.2.2.2.2.2.1
theorem Cl.dup {P : PT} (h : Cl P) : cl_dup P := h.2.2.2.2.2.2.2.2.2.2.2.2.2.2.2.2.2.1
theorem Cl.dup2 {P : PT} (h : Cl P) : cl_dup2 P := h.2.2.2.2.2.2.2.2.2.2.2.2.2.2.2.2.2.2.1
theorem Cl.if0 {P : PT} (h : Cl P) : cl_if0 P := h.2.2.2.2.2.2.2.2.2.2.2.2.2.2.2.2.2.2.2.1
theorem Cl.if2 {P : PT} (h : Cl P) : cl_if2 P := h.2.2.2.2.2.2.2.2.2.2.2.2.2.2.2.2.2.2.2.2.1
theorem Cl.goto {P : PT} (h : Cl P) : cl_goto P := h.2.2.2.2.2.2.2.2.2.2.2.2.2.2.2.2.2.2.2.2.2.1
theorem Cl.table {P : PT} (h : Cl P) : cl_table P := h.2.2.2.2.2.2.2.2.2.2.2.2.2.2.2.2.2.2.2.2.2.2.1
theorem Cl.getI {P : PT} (h : Cl P) : cl_getI P := h.2.2.2.2.2.2.2.2.2.2.2.2.2.2.2.2.2.2.2.2.2.2.2.1
theorem Cl.getR {P : PT} (h : Cl P) : cl_getR P := h.2.2.2.2.2.2.2.2.2.2.2.2.2.2.2.2.2.2.2.2.2.2.2.2.1
theorem Cl.getD {P : PT} (h : Cl P) : cl_getD P := h.2.2.2.2.2.2.2.2.2.2.2.2.2.2.2.2.2.2.2.2.2.2.2.2.2.1
theorem Cl.putI {P : PT} (h : Cl P) : cl_putI P := h.2.2.2.2.2.2.2.2.2.2.2.2.2.2.2.2.2.2.2.2.2.2.2.2.2.2.1
theorem Cl.putR {P : PT} (h : Cl P) : cl_putR P := h.2.2.2.2.2.2.2.2.2.2.2.2.2.2.2.2.2.2.2.2.2.2.2.2.2.2.2.1
theorem Cl.putD {P : PT} (h : Cl P) : cl_putD P := h.2.2.2.2.2.2.2.2.2.2.2.2.2.2.2.2.2.2.2.2.2.2.2.2.2.2.2.2.1
theorem Cl.iald {P : PT} (h : Cl P) : cl_iald P := h.2.2.2.2.2.2.2.2.2.2.2.2.2.2.2.2.2.2.2.2.2.2.2.2.2.2.2.2.2.1
theorem Cl.sald {P : PT} (h : Cl P) : cl_sald P := h.2.2.2.2.2.2.2.2.2.2.2.2.2.2.2.2.2.2.2.2.2.2.2.2.2.2.2.2.2.2.1
theorem Cl.slen {P : PT} (h : Cl P) : cl_slen P := h.2.2.2.2.2.2.2.2.2.2.2.2.2.2.2.2.2.2.2.2.2.2.2.2.2.2.2.2.2.2.2.1
theorem Cl.alen {P : PT} (h : Cl P) : cl_alen P := h.2.2.2.2.2.2.2.2.2.2.2.2.2.2.2.2.2.2.2.2.2.2.2.2.2.2.2.2.2.2.2.2.1
theorem Cl.zald {P : PT} (h : Cl P) : cl_zald P := h.2.2.2.2.2.2.2.2.2.2.2.2.2.2.2.2.2.2.2.2.2.2.2.2.2.2.2.2.2.2.2.2.2.1
theorem Cl.aald {P : PT} (h : Cl P) : cl_aald P := h.2.2.2.2.2.2.2.2.2.2.2.2.2.2.2.2.2.2.2.2.2.2.2.2.2.2.2.2.2.2.2.2.2.2.1
theorem Cl.lald {P : PT} (h : Cl P) : cl_lald P := h.2.2.2.2.2.2.2.2.2.2.2.2.2.2.2.2.2.2.2.2.2.2.2.2.2.2.2.2.2.2.2.2.2.2.2.1
theorem Cl.dald {P : PT} (h : Cl P) : cl_dald P := h.2.2.2.2.2.2.2.2.2.2.2.2.2.2.2.2.2.2.2.2.2.2.2.2.2.2.2.2.2.2.2.2.2.2.2.2.1
theorem Cl.iast {P : PT} (h : Cl P) : cl_iast P := h.2.2.2.2.2.2.2.2.2.2.2.2.2.2.2.2.2.2.2.2.2.2.2.2.2.2.2.2.2.2.2.2.2.2.2.2.2.1
theorem Cl.zast {P : PT} (h : Cl P) : cl_zast P := h.2.2.2.2.2.2.2.2.2.2.2.2.2.2.2.2.2.2.2.2.2.2.2.2.2.2.2.2.2.2.2.2.2.2.2.2.2.2.1
theorem Cl.aast {P : PT} (h : Cl P) : cl_aast P := h.2.2.2.2.2.2.2.2.2.2.2.2.2.2.2.2.2.2.2.2.2.2.2.2.2.2.2.2.2.2.2.2.2.2.2.2.2.2.2.1
theorem Cl.last {P : PT} (h : Cl P) : cl_last P := h.2.2.2.2.2.2.2.2.2.2.2.2.2.2.2.2.2.2.2.2.2.2.2.2.2.2.2.2.2.2.2.2.2.2.2.2.2.2.2.2.1
theorem Cl.dast {P : PT} (h : Cl P) : cl_dast P := h.2.2.2.2.2.2.2.2.2.2.2.2.2.2.2.2.2.2.2.2.2.2.2.2.2.2.2.2.2.2.2.2.2.2.2.2.2.2.2.2.2.1
theorem Cl.new {P : PT} (h : Cl P) : cl_new P := h.2.2.2.2.2.2.2.2.2.2.2.2.2.2.2.2.2.2.2.2.2.2.2.2.2.2.2.2.2.2.2.2.2.2.2.2.2.2.2.2.2.2.1
theorem Cl.newa {P : PT} (h : Cl P) : cl_newa P := h.2.2.2.2.2.2.2.2.2.2.2.2.2.2.2.2.2.2.2.2.2.2.2.2.2.2.2.2.2.2.2.2.2.2.2.2.2.2.2.2.2.2.2.1
theorem Cl.anew {P : PT} (h : Cl P) : cl_anew P := h.2.2.2.2.2.2.2.2.2.2.2.2.2.2.2.2.2.2.2.2.2.2.2.2.2.2.2.2.2.2.2.2.2.2.2.2.2.2.2.2.2.2.2.2.1
theorem Cl.oinit {P : PT} (h : Cl P) : cl_oinit P := h.2.2.2.2.2.2.2.2.2.2.2.2.2.2.2.2.2.2.2.2.2.2.2.2.2.2.2.2.2.2.2.2.2.2.2.2.2.2.2.2.2.2.2.2.2.1
theorem Cl.ready {P : PT} (h : Cl P) : cl_ready P := h.2.2.2.2.2.2.2.2.2.2.2.2.2.2.2.2.2.2.2.2.2.2.2.2.2.2.2.2.2.2.2.2.2.2.2.2.2.2.2.2.2.2.2.2.2.2.1
theorem Cl.weak {P : PT} (h : Cl P) : cl_weak P := h.2.2.2.2.2.2.2.2.2.2.2.2.2.2.2.2.2.2.2.2.2.2.2.2.2.2.2.2.2.2.2.2.2.2.2.2.2.2.2.2.2.2.2.2.2.2.2.1
theorem Cl.call {P : PT} (h : Cl P) : cl_call P := h.2.2.2.2.2.2.2.2.2.2.2.2.2.2.2.2.2.2.2.2.2.2.2.2.2.2.2.2.2.2.2.2.2.2.2.2.2.2.2.2.2.2.2.2.2.2.2.2.1
theorem Cl.callT {P : PT} (h : Cl P) : cl_callT P := h.2.2.2.2.2.2.2.2.2.2.2.2.2.2.2.2.2.2.2.2.2.2.2.2.2.2.2.2.2.2.2.2.2.2.2.2.2.2.2.2.2.2.2.2.2.2.2.2.2.1
theorem Cl.callC {P : PT} (h : Cl P) : cl_callC P := h.2.2.2.2.2.2.2.2.2.2.2.2.2.2.2.2.2.2.2.2.2.2.2.2.2.2.2.2.2.2.2.2.2.2.2.2.2.2.2.2.2.2.2.2.2.2.2.2.2.2.1
theorem Cl.mmax {P : PT} (h : Cl P) : cl_mmax P := h.2.2.2.2.2.2.2.2.2.2.2.2.2.2.2.2.2.2.2.2.2.2.2.2.2.2.2.2.2.2.2.2.2.2.2.2.2.2.2.2.2.2.2.2.2.2.2.2.2.2.2.1
theorem Cl.mabs {P : PT} (h : Cl P) : cl_mabs P := h.2.2.2.2.2.2.2.2.2.2.2.2.2.2.2.2.2.2.2.2.2.2.2.2.2.2.2.2.2.2.2.2.2.2.2.2.2.2.2.2.2.2.2.2.2.2.2.2.2.2.2.2.1
theorem Cl.throw {P : PT} (h : Cl P) : cl_throw P := h.2.2.2.2.2.2.2.2.2.2.2.2.2.2.2.2.2.2.2.2.2.2.2.2.2.2.2.2.2.2.2.2.2.2.2.2.2.2.2.2.2.2.2.2.2.2.2.2.2.2.2.2.2.1
theorem Cl.iret {P : PT} (h : Cl P) : cl_iret P := h.2.2.2.2.2.2.2.2.2.2.2.2.2.2.2.2.2.2.2.2.2.2.2.2.2.2.2.2.2.2.2.2.2.2.2.2.2.2.2.2.2.2.2.2.2.2.2.2.2.2.2.2.2.2.1
theorem Cl.lret {P : PT} (h : Cl P) : cl_lret P := h.2.2.2.2.2.2.2.2.2.2.2.2.2.2.2.2.2.2.2.2.2.2.2.2.2.2.2.2.2.2.2.2.2.2.2.2.2.2.2.2.2.2.2.2.2.2.2.2.2.2.2.2.2.2.2.1
theorem Cl.dret {P : PT} (h : Cl P) : cl_dret P := h.2.2.2.2.2.2.2.2.2.2.2.2.2.2.2.2.2.2.2.2.2.2.2.2.2.2.2.2.2.2.2.2.2.2.2.2.2.2.2.2.2.2.2.2.2.2.2.2.2.2.2.2.2.2.2.2.1
theorem Cl.vret {P : PT} (h : Cl P) : cl_vret P := h.2.2.2.2.2.2.2.2.2.2.2.2.2.2.2.2.2.2.2.2.2.2.2.2.2.2.2.2.2.2.2.2.2.2.2.2.2.2.2.2.2.2.2.2.2.2.2.2.2.2.2.2.2.2.2.2.2
/-- the least closed relation -/
def Run (z : Nat) (s : St) (out : Ou) : Prop := ∀ P : PT, Cl P → P z s out
theorem Run_push : cl_push Run := fun z pc ls st M κ out i nx p q r x h0 h1 h2 P hP => Cl.push hP z pc ls st M κ out i nx p q r x h0 h1 (h2 P hP)
theorem Run_lpush : cl_lpush Run := fun z pc ls st M κ out nx p q r x h0 h1 P hP => Cl.lpush hP z pc ls st M κ out nx p q r x h0 (h1 P hP)
theorem Run_dpush : cl_dpush Run := fun z pc ls st M κ out nx p q r x h0 h1 P hP => Cl.dpush hP z pc ls st M κ out nx p q r x h0 (h1 P hP)
theorem Run_load : cl_load Run := fun z pc ls st M κ out i nx p q r x v h0 h1 h2 h3 P hP => Cl.load hP z pc ls st M κ out i nx p q r x v h0 h1 h2 (h3 P hP)
theorem Run_store : cl_store Run := fun z pc ls st M κ out i nx p q r x v h0 h1 h2 h3 P hP => Cl.store hP z pc ls st M κ out i nx p q r x v h0 h1 h2 (h3 P hP)
theorem Run_iinc : cl_iinc Run := fun z pc ls st M κ out nx p q r x a b y h0 h1 h2 P hP => Cl.iinc hP z pc ls st M κ out nx p q r x a b y h0 h1 (h2 P hP)
theorem Run_bin : cl_bin Run := fun z pc ls st M κ out i nx p q r x f a b h0 h1 h2 P hP => Cl.bin hP z pc ls st M κ out i nx p q r x f a b h0 h1 (h2 P hP)
theorem Run_div : cl_div Run := fun z pc ls st M κ out i nx p q r x f a b h0 h1 h2 h3 P hP => Cl.div hP z pc ls st M κ out i nx p q r x f a b h0 h1 h2 (h3 P hP)
theorem Run_neg : cl_neg Run := fun z pc ls st M κ out nx p q r x a h0 h1 P hP => Cl.neg hP z pc ls st M κ out nx p q r x a h0 (h1 P hP)
theorem Run_i2l : cl_i2l Run := fun z pc ls st M κ out nx p q r x a h0 h1 P hP => Cl.i2l hP z pc ls st M κ out nx p q r x a h0 (h1 P hP)
theorem Run_i2d : cl_i2d Run := fun z pc ls st M κ out nx p q r x a h0 h1 P hP => Cl.i2d hP z pc ls st M κ out nx p q r x a h0 (h1 P hP)
theorem Run_lcmp : cl_lcmp Run := fun z pc ls st M κ out nx p q r x a b h0 h1 P hP => Cl.lcmp hP z pc ls st M κ out nx p q r x a b h0 (h1 P hP)
theorem Run_lor : cl_lor Run := fun z pc ls st M κ out nx p q r x a b h0 h1 P hP => Cl.lor hP z pc ls st M κ out nx p q r x a b h0 (h1 P hP)
theorem Run_lshl : cl_lshl Run := fun z pc ls st M κ out nx p q r x a b h0 h1 P hP => Cl.lshl hP z pc ls st M κ out nx p q r x a b h0 (h1 P hP)
theorem Run_dcmp : cl_dcmp Run := fun z pc ls st M κ out nx p q r x o a b h0 h1 P hP => Cl.dcmp hP z pc ls st M κ out nx p q r x o a b h0 (h1 P hP)
theorem Run_dmul : cl_dmul Run := fun z pc ls st M κ out nx p q r x a b h0 h1 h2 P hP => Cl.dmul hP z pc ls st M κ out nx p q r x a b h0 h1 (h2 P hP)
theorem Run_ddiv : cl_ddiv Run := fun z pc ls st M κ out nx p q r x a b h0 h1 h2 P hP => Cl.ddiv hP z pc ls st M κ out nx p q r x a b h0 h1 (h2 P hP)
theorem Run_dup : cl_dup Run := fun z pc ls st M κ out nx p q r x v h0 h1 h2 P hP => Cl.dup hP z pc ls st M κ out nx p q r x v h0 h1 (h2 P hP)
theorem Run_dup2 : cl_dup2 Run := fun z pc ls st M κ out nx p q r x v w h0 h1 h2 h3 P hP => Cl.dup2 hP z pc ls st M κ out nx p q r x v w h0 h1 h2 (h3 P hP)
theorem Run_if0 : cl_if0 Run := fun z pc ls st M κ out nx p q r x c o a h0 h1 h2 P hP => Cl.if0 hP z pc ls st M κ out nx p q r x c o a h0 (fun c => h1 c P hP) (fun c => h2 c P hP)
theorem Run_if2 : cl_if2 Run := fun z pc ls st M κ out nx p q r x c o a b h0 h1 h2 P hP => Cl.if2 hP z pc ls st M κ out nx p q r x c o a b h0 (fun c => h1 c P hP) (fun c => h2 c P hP)
theorem Run_goto : cl_goto Run := fun z pc ls st M κ out nx p q r x o h0 h1 P hP => Cl.goto hP z pc ls st M κ out nx p q r x o h0 (h1 P hP)
theorem Run_table : cl_table Run := fun z pc ls st M κ out i nx p q r x a tgt h0 h1 h2 P hP => Cl.table hP z pc ls st M κ out i nx p q r x a tgt h0 h1 (h2 P hP)
theorem Run_getI : cl_getI Run := fun z pc ls st M κ out nx p q r x a k h0 h1 h2 h3 h4 P hP => Cl.getI hP z pc ls st M κ out nx p q r x a k h0 h1 h2 h3 (h4 P hP)
theorem Run_getR : cl_getR Run := fun z pc ls st M κ out nx p q r x a k h0 h1 h2 h3 h4 h5 P hP => Cl.getR hP z pc ls st M κ out nx p q r x a k h0 h1 h2 h3 h4 (h5 P hP)
theorem Run_getD : cl_getD Run := fun z pc ls st M κ out nx p q r x a k d h0 h1 h2 h3 h4 h5 h6 h7 P hP => Cl.getD hP z pc ls st M κ out nx p q r x a k d h0 h1 h2 h3 h4 h5 h6 (h7 P hP)
theorem Run_putI : cl_putI Run := fun z pc ls st M κ out nx p q r x a k v h0 h1 h2 h3 h4 h5 P hP => Cl.putI hP z pc ls st M κ out nx p q r x a k v h0 h1 h2 h3 h4 (h5 P hP)
theorem Run_putR : cl_putR Run := fun z pc ls st M κ out nx p q r x a k d h0 h1 h2 h3 h4 h5 h6 h7 P hP => Cl.putR hP z pc ls st M κ out nx p q r x a k d h0 h1 h2 h3 h4 h5 h6 (h7 P hP)
theorem Run_putD : cl_putD Run := fun z pc ls st M κ out nx p q r x a k d h0 h1 h2 h3 h4 h5 h6 P hP => Cl.putD hP z pc ls st M κ out nx p q r x a k d h0 h1 h2 h3 h4 h5 (h6 P hP)
theorem Run_iald : cl_iald Run := fun z pc ls st M κ out nx p q r x k a h0 h1 h2 h3 h4 P hP => Cl.iald hP z pc ls st M κ out nx p q r x k a h0 h1 h2 h3 (h4 P hP)
theorem Run_sald : cl_sald Run := fun z pc ls st M κ out nx p q r x a h0 h1 h2 P hP => Cl.sald hP z pc ls st M κ out nx p q r x a h0 h1 (h2 P hP)
theorem Run_slen : cl_slen Run := fun z pc ls st M κ out nx p q r x h0 h1 P hP => Cl.slen hP z pc ls st M κ out nx p q r x h0 (h1 P hP)
theorem Run_alen : cl_alen Run := fun z pc ls st M κ out nx p q r x k h0 h1 h2 h3 P hP => Cl.alen hP z pc ls st M κ out nx p q r x k h0 h1 h2 (h3 P hP)
theorem Run_zald : cl_zald Run := fun z pc ls st M κ out nx p q r x k a h0 h1 h2 h3 h4 P hP => Cl.zald hP z pc ls st M κ out nx p q r x k a h0 h1 h2 h3 (h4 P hP)
theorem Run_aald : cl_aald Run := fun z pc ls st M κ out nx p q r x k a h0 h1 h2 h3 h4 h5 P hP => Cl.aald hP z pc ls st M κ out nx p q r x k a h0 h1 h2 h3 h4 (h5 P hP)
theorem Run_lald : cl_lald Run := fun z pc ls st M κ out nx p q r x k a h0 h1 h2 h3 h4 P hP => Cl.lald hP z pc ls st M κ out nx p q r x k a h0 h1 h2 h3 (h4 P hP)
theorem Run_dald : cl_dald Run := fun z pc ls st M κ out nx p q r x k a h0 h1 h2 h3 h4 P hP => Cl.dald hP z pc ls st M κ out nx p q r x k a h0 h1 h2 h3 (h4 P hP)
theorem Run_iast : cl_iast Run := fun z pc ls st M κ out nx p q r x k a v h0 h1 h2 h3 h4 P hP => Cl.iast hP z pc ls st M κ out nx p q r x k a v h0 h1 h2 h3 (h4 P hP)
theorem Run_zast : cl_zast Run := fun z pc ls st M κ out nx p q r x k a v h0 h1 h2 h3 h4 h5 P hP => Cl.zast hP z pc ls st M κ out nx p q r x k a v h0 h1 h2 h3 h4 (h5 P hP)
theorem Run_aast : cl_aast Run := fun z pc ls st M κ out nx p q r x k d a h0 h1 h2 h3 h4 h5 h6 h7 P hP => Cl.aast hP z pc ls st M κ out nx p q r x k d a h0 h1 h2 h3 h4 h5 h6 (h7 P hP)
theorem Run_last : cl_last Run := fun z pc ls st M κ out nx p q r x k a v h0 h1 h2 h3 h4 P hP => Cl.last hP z pc ls st M κ out nx p q r x k a v h0 h1 h2 h3 (h4 P hP)
theorem Run_dast : cl_dast Run := fun z pc ls st M κ out nx p q r x k a v h0 h1 h2 h3 h4 P hP => Cl.dast hP z pc ls st M κ out nx p q r x k a v h0 h1 h2 h3 (h4 P hP)
theorem Run_new : cl_new Run := fun z pc ls st M κ out nx p q r x a h0 h1 h2 h3 h4 h5 h6 P hP => Cl.new hP z pc ls st M κ out nx p q r x a h0 h1 h2 h3 h4 h5 (h6 P hP)
theorem Run_newa : cl_newa Run := fun z pc ls st M κ out nx p q r x t n h0 h1 h2 h3 h4 h5 h6 h7 h8 h9 h10 P hP => Cl.newa hP z pc ls st M κ out nx p q r x t n h0 h1 h2 h3 h4 h5 h6 h7 h8 h9 (h10 P hP)
theorem Run_anew : cl_anew Run := fun z pc ls st M κ out nx p q r x a h0 h1 h2 h3 h4 h5 P hP => Cl.anew hP z pc ls st M κ out nx p q r x a h0 h1 h2 h3 h4 (h5 P hP)
theorem Run_oinit : cl_oinit Run := fun z pc ls st M κ out nx p q r x a k h0 h1 h2 h3 P hP => Cl.oinit hP z pc ls st M κ out nx p q r x a k h0 h1 h2 (h3 P hP)
theorem Run_ready : cl_ready Run := fun z pc ls st M κ out h0 h1 h2 P hP => Cl.ready hP z pc ls st M κ out h0 h1 (h2 P hP)
theorem Run_weak : cl_weak Run := fun z pc ls st M κ out l1 h0 h1 P hP => Cl.weak hP z pc ls st M κ out l1 h0 (h1 P hP)
theorem Run_call : cl_call Run := fun z pc ls st M κ out i nx y q r x av rest v M1 κ1 h0 h1 h2 h3 h4 h5 h6 h7 h8 h9 h10 P hP => Cl.call hP z pc ls st M κ out i nx y q r x av rest v M1 κ1 h0 h1 h2 h3 h4 h5 h6 h7 h8 (h9 P hP) (h10 P hP)
theorem Run_callT : cl_callT Run := fun z pc ls st M κ out i nx y q r x av rest e M1 κ1 h0 h1 h2 h3 h4 h5 h6 h7 h8 h9 h10 h11 h12 P hP => Cl.callT hP z pc ls st M κ out i nx y q r x av rest e M1 κ1 h0 h1 h2 h3 h4 h5 h6 h7 h8 h9 h10 h11 (h12 P hP)
theorem Run_callC : cl_callC Run := fun z pc ls st M κ out i nx y q r x av rest e n hp M1 κ1 w h0 h1 h2 h3 h4 h5 h6 h7 h8 h9 h10 h11 h12 P hP => Cl.callC hP z pc ls st M κ out i nx y q r x av rest e n hp M1 κ1 w h0 h1 h2 h3 h4 h5 h6 h7 h8 h9 h10 h11 (h12 P hP)
theorem Run_mmax : cl_mmax Run := fun z pc ls st M κ out i nx q r x a b h0 h1 h2 h3 h4 P hP => Cl.mmax hP z pc ls st M κ out i nx q r x a b h0 h1 h2 h3 (h4 P hP)
theorem Run_mabs : cl_mabs Run := fun z pc ls st M κ out i nx q r x a h0 h1 h2 h3 h4 P hP => Cl.mabs hP z pc ls st M κ out i nx q r x a h0 h1 h2 h3 (h4 P hP)
theorem Run_throw : cl_throw Run := fun z pc ls st M κ out nx p q r x a h0 h1 h2 h3 h4 h5 P hP => Cl.throw hP z pc ls st M κ out nx p q r x a h0 h1 h2 h3 h4 h5
theorem Run_iret : cl_iret Run := fun z pc ls st M κ out nx p q r x v h0 h1 P hP => Cl.iret hP z pc ls st M κ out nx p q r x v h0 h1
theorem Run_lret : cl_lret Run := fun z pc ls st M κ out nx p q r x v h0 h1 P hP => Cl.lret hP z pc ls st M κ out nx p q r x v h0 h1
theorem Run_dret : cl_dret Run := fun z pc ls st M κ out nx p q r x v h0 h1 P hP => Cl.dret hP z pc ls st M κ out nx p q r x v h0 h1
theorem Run_vret : cl_vret Run := fun z pc ls st M κ out nx p q r x h0 h1 P hP => Cl.vret hP z pc ls st M κ out nx p q r x h0 h1
