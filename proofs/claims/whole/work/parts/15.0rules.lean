/-! THE PURE WALK: Run, with its end told by a predicate -/
section WALK
def RT (z : Nat) (s : St) (Q : Ou → Prop) : Prop := ∃ out, Run z s out ∧ Q out
/-- all objects are made -/
def Rd (κ : Kp) : Prop := kN κ = 180 ∧ kR κ = true
def isOb (k c : Nat) : Prop := kd k = c ∧ k < 180
def isAr (k n : Nat) : Prop := kd k = 20 ∧ ln k = n ∧ k < 180
def isZr (k n : Nat) : Prop := kd k = 21 ∧ ln k = n ∧ k < 180
def bI (b : Bool) : Int32 := if b then 1 else 0
def mx (a b : Int32) : Int32 := if a < b then b else a
def ab (a : Int32) : Int32 := if 0 ≤ a then a else 0 - a
def rm (x y : Int32) : Int32 := x - x / y * y
variable {z pc nx p q r y k n a e d : Nat} {x u v w : Int32} {ls st l1 : List Value} {M M1 : Mem} {κ κ1 : Kp} {Q Q' : Ou → Prop} {i : Instr} {out : Ou}
theorem RT_mono (h : RT z (pc, ls, st, M, κ) Q') (hq : ∀ o, Q' o → Q o) : RT z (pc, ls, st, M, κ) Q := h.elim fun o k => ⟨o, k.1, hq o k.2⟩
theorem RT_run (h : RT z (pc, ls, st, M, κ) (fun o => o = out)) : Run z (pc, ls, st, M, κ) out := h.elim fun o k => k.2 ▸ k.1
theorem RT_of (h : Run z (pc, ls, st, M, κ) out) (hq : Q out) : RT z (pc, ls, st, M, κ) Q := ⟨out, h, hq⟩
theorem RT_step {z' pc' : Nat} {ls' st' : List Value} (f : ∀ o, Run z' (pc', ls', st', M1, κ1) o → Run z (pc, ls, st, M, κ) o) (K : RT z' (pc', ls', st', M1, κ1) Q) : RT z (pc, ls, st, M, κ) Q := K.elim fun o k => ⟨o, f o k.1, k.2⟩
theorem bI_t : bI true = 1 := rfl
theorem bI_f : bI false = 0 := rfl
theorem isB_bI (b : Bool) : isB (bI b) = true := by cases b <;> rfl
theorem bI_z {b : Bool} : bI b = 0 ↔ ¬ b = true := by cases b <;> decide
theorem bI_inj {b c : Bool} (h : bI b = bI c) : b = c := by revert h; cases b <;> cases c <;> decide
theorem stM_o {j k' j' : Nat} (h : k' ≠ k) : stM M k j v k' j' = M k' j' := if_neg fun c => h c.1
theorem stM_j {j k' j' : Nat} (h : j' ≠ j) : stM M k j v k' j' = M k' j' := if_neg fun c => h c.2
theorem stM_s {j : Nat} : stM M k j v k j = v := if_pos ⟨rfl, rfl⟩
theorem stM_ob {j k' : Nat} (h : k' ≠ k) : stM M k j v k' = M k' := funext fun _ => stM_o h
theorem w_push (h : ins z pc = some (i, nx, p, q, r, x)) (hi : isPush i = true) (K : RT z (nx, ls, .int x :: st, M, κ) Q) : RT z (pc, ls, st, M, κ) Q := RT_step (fun o => Run_push _ _ _ _ _ _ _ _ _ _ _ _ _ h hi) K
theorem w_lpush (h : ins z pc = some (.lconst 0, nx, p, q, r, x)) (K : RT z (nx, ls, .long 0 :: st, M, κ) Q) : RT z (pc, ls, st, M, κ) Q := RT_step (fun o => Run_lpush _ _ _ _ _ _ _ _ _ _ _ _ h) K
theorem w_dpush (h : ins z pc = some (.dconst 0, nx, p, q, r, x)) (K : RT z (nx, ls, .double 0 :: st, M, κ) Q) : RT z (pc, ls, st, M, κ) Q := RT_step (fun o => Run_dpush _ _ _ _ _ _ _ _ _ _ _ _ h) K
theorem w_load {v : Value} (h : ins z pc = some (i, nx, p, q, r, x)) (hi : ldOk i v = true) (hl : ls[p]? = some v) (K : RT z (nx, ls, v :: st, M, κ) Q) : RT z (pc, ls, st, M, κ) Q := RT_step (fun o => Run_load _ _ _ _ _ _ _ _ _ _ _ _ _ _ h hi hl) K
theorem w_store {v : Value} (h : ins z pc = some (i, nx, p, q, r, x)) (hi : stOk i v = true) (hl : p + v.category ≤ ls.length) (hs : setl ls p v = l1) (K : RT z (nx, l1, st, M, κ) Q) : RT z (pc, ls, v :: st, M, κ) Q := RT_step (fun o => Run_store _ _ _ _ _ _ _ _ _ _ _ _ _ _ h hi hl) (hs ▸ K)
theorem w_iinc {b : Int} (h : ins z pc = some (.iinc a b, nx, p, q, r, x)) (hl : ls[p]? = some (.int u)) (hs : setl ls p (.int (u + x)) = l1) (K : RT z (nx, l1, st, M, κ) Q) : RT z (pc, ls, st, M, κ) Q := RT_step (fun o => Run_iinc _ _ _ _ _ _ _ _ _ _ _ _ _ _ _ h hl) (hs ▸ K)
theorem w_iincN {b : Int} (c : Nat) (h : ins z pc = some (.iinc a b, nx, p, q, r, nI c)) (hl : ls[p]? = some (.int (nI n))) (hs : setl ls p (.int (nI (n + c))) = l1) (K : RT z (nx, l1, st, M, κ) Q) : RT z (pc, ls, st, M, κ) Q := w_iinc h hl (by rw [nI_add]; exact hs) K
theorem w_bin {f : Int32 → Int32 → Int32} (h : ins z pc = some (i, nx, p, q, r, x)) (hf : bop i = some f) (hw : f u v = w) (K : RT z (nx, ls, .int w :: st, M, κ) Q) : RT z (pc, ls, .int v :: .int u :: st, M, κ) Q := RT_step (fun o => Run_bin _ _ _ _ _ _ _ _ _ _ _ _ _ f u v h hf) (hw ▸ K)
theorem nI_mul (a b : Nat) : nI a * nI b = nI (a * b) := by
  apply Int32.toInt_inj.mp
  simp [nI]
theorem w_div {f : Int32 → Int32 → Int32} (h : ins z pc = some (i, nx, p, q, r, x)) (hf : dop i = some f) (h0 : ¬ v = 0) (hw : f u v = w) (K : RT z (nx, ls, .int w :: st, M, κ) Q) : RT z (pc, ls, .int v :: .int u :: st, M, κ) Q := RT_step (fun o => Run_div _ _ _ _ _ _ _ _ _ _ _ _ _ f u v h hf h0) (hw ▸ K)
theorem w_neg (h : ins z pc = some (.ineg, nx, p, q, r, x)) (K : RT z (nx, ls, .int (-u) :: st, M, κ) Q) : RT z (pc, ls, .int u :: st, M, κ) Q := RT_step (fun o => Run_neg _ _ _ _ _ _ _ _ _ _ _ _ u h) K
theorem w_i2l (h : ins z pc = some (.i2l, nx, p, q, r, x)) (K : RT z (nx, ls, .long u.toInt64 :: st, M, κ) Q) : RT z (pc, ls, .int u :: st, M, κ) Q := RT_step (fun o => Run_i2l _ _ _ _ _ _ _ _ _ _ _ _ u h) K
theorem w_i2d (h : ins z pc = some (.i2d, nx, p, q, r, x)) (K : RT z (nx, ls, .double (FP.i2d u) :: st, M, κ) Q) : RT z (pc, ls, .int u :: st, M, κ) Q := RT_step (fun o => Run_i2d _ _ _ _ _ _ _ _ _ _ _ _ u h) K
theorem w_lcmp {a b : Int64} (h : ins z pc = some (.lcmp, nx, p, q, r, x)) (K : RT z (nx, ls, .int (lg_cmp a b) :: st, M, κ) Q) : RT z (pc, ls, .long b :: .long a :: st, M, κ) Q := RT_step (fun o => Run_lcmp _ _ _ _ _ _ _ _ _ _ _ _ a b h) K
theorem w_lor {a b : Int64} (h : ins z pc = some (.lor, nx, p, q, r, x)) (K : RT z (nx, ls, .long (a ||| b) :: st, M, κ) Q) : RT z (pc, ls, .long b :: .long a :: st, M, κ) Q := RT_step (fun o => Run_lor _ _ _ _ _ _ _ _ _ _ _ _ a b h) K
theorem w_lshl {a : Int64} (h : ins z pc = some (.lshl, nx, p, q, r, x)) (K : RT z (nx, ls, .long (a <<< (u.toInt64 &&& 63)) :: st, M, κ) Q) : RT z (pc, ls, .int u :: .long a :: st, M, κ) Q := RT_step (fun o => Run_lshl _ _ _ _ _ _ _ _ _ _ _ _ a u h) K
theorem w_dcmp {a b : UInt64} {c : CmpOp} (h : ins z pc = some (.dcmp c, nx, p, q, r, x)) (K : RT z (nx, ls, .int (Op.cmpValue (FP.dcmp a b) c) :: st, M, κ) Q) : RT z (pc, ls, .double b :: .double a :: st, M, κ) Q := RT_step (fun o => Run_dcmp _ _ _ _ _ _ _ _ _ _ _ _ c a b h) K
theorem w_dmul {a b : UInt64} (h : ins z pc = some (.dmul, nx, p, q, r, x)) (hn : vf_n64 (FP.dmul a b)) (K : RT z (nx, ls, .double (FP.dmul a b) :: st, M, κ) Q) : RT z (pc, ls, .double b :: .double a :: st, M, κ) Q := RT_step (fun o => Run_dmul _ _ _ _ _ _ _ _ _ _ _ _ a b h hn) K
theorem w_ddiv {a b : UInt64} (h : ins z pc = some (.ddiv, nx, p, q, r, x)) (hn : vf_n64 (FP.ddiv a b)) (K : RT z (nx, ls, .double (FP.ddiv a b) :: st, M, κ) Q) : RT z (pc, ls, .double b :: .double a :: st, M, κ) Q := RT_step (fun o => Run_ddiv _ _ _ _ _ _ _ _ _ _ _ _ a b h hn) K
theorem w_dup {v : Value} (h : ins z pc = some (.dup, nx, p, q, r, x)) (hc : v.category = 1) (K : RT z (nx, ls, v :: v :: st, M, κ) Q) : RT z (pc, ls, v :: st, M, κ) Q := RT_step (fun o => Run_dup _ _ _ _ _ _ _ _ _ _ _ _ v h hc) K
theorem w_dup2 {v w : Value} (h : ins z pc = some (.dup2, nx, p, q, r, x)) (hc : v.category = 1) (hd : w.category = 1) (K : RT z (nx, ls, v :: w :: v :: w :: st, M, κ) Q) : RT z (pc, ls, v :: w :: st, M, κ) Q := RT_step (fun o => Run_dup2 _ _ _ _ _ _ _ _ _ _ _ _ v w h hc hd) K
theorem w_if0 {c : Jvm.ClassFile.Cond} {o : Int} (P : Prop) (h : ins z pc = some (.ifCond c o, nx, p, q, r, x)) (h1 : cnd0 c u ↔ P) (K1 : P → RT z (p, ls, st, M, κ) Q) (K2 : ¬ P → RT z (nx, ls, st, M, κ) Q) : RT z (pc, ls, .int u :: st, M, κ) Q := by
  by_cases c : P
  · obtain ⟨o, k1, k2⟩ := K1 c
    exact ⟨o, Run_if0 _ _ _ _ _ _ _ _ _ _ _ _ _ _ _ h (fun _ => k1) (fun e => absurd (h1.mpr c) e), k2⟩
  · obtain ⟨o, k1, k2⟩ := K2 c
    exact ⟨o, Run_if0 _ _ _ _ _ _ _ _ _ _ _ _ _ _ _ h (fun e => absurd (h1.mp e) c) (fun _ => k1), k2⟩
theorem w_if2 {c : Jvm.ClassFile.Cond} {o : Int} (P : Prop) (h : ins z pc = some (.if_icmp c o, nx, p, q, r, x)) (h1 : cnd2 c u v ↔ P) (K1 : P → RT z (p, ls, st, M, κ) Q) (K2 : ¬ P → RT z (nx, ls, st, M, κ) Q) : RT z (pc, ls, .int v :: .int u :: st, M, κ) Q := by
  by_cases c : P
  · obtain ⟨o, k1, k2⟩ := K1 c
    exact ⟨o, Run_if2 _ _ _ _ _ _ _ _ _ _ _ _ _ _ _ _ h (fun _ => k1) (fun e => absurd (h1.mpr c) e), k2⟩
  · obtain ⟨o, k1, k2⟩ := K2 c
    exact ⟨o, Run_if2 _ _ _ _ _ _ _ _ _ _ _ _ _ _ _ _ h (fun e => absurd (h1.mp e) c) (fun _ => k1), k2⟩
/-- jump when the canonical condition fails -/
theorem w_if0n {c : Jvm.ClassFile.Cond} {o : Int} (P : Prop) (h : ins z pc = some (.ifCond c o, nx, p, q, r, x)) (h1 : cnd0 c u ↔ ¬ P) (K1 : P → RT z (nx, ls, st, M, κ) Q) (K2 : ¬ P → RT z (p, ls, st, M, κ) Q) : RT z (pc, ls, .int u :: st, M, κ) Q := w_if0 (¬ P) h h1 K2 (fun e => K1 (Classical.byContradiction e))
theorem w_if2n {c : Jvm.ClassFile.Cond} {o : Int} (P : Prop) (h : ins z pc = some (.if_icmp c o, nx, p, q, r, x)) (h1 : cnd2 c u v ↔ ¬ P) (K1 : P → RT z (nx, ls, st, M, κ) Q) (K2 : ¬ P → RT z (p, ls, st, M, κ) Q) : RT z (pc, ls, .int v :: .int u :: st, M, κ) Q := w_if2 (¬ P) h h1 K2 (fun e => K1 (Classical.byContradiction e))
theorem w_goto {o : Int} (h : ins z pc = some (.goto o, nx, p, q, r, x)) (K : RT z (p, ls, st, M, κ) Q) : RT z (pc, ls, st, M, κ) Q := RT_step (fun o => Run_goto _ _ _ _ _ _ _ _ _ _ _ _ _ h) K
theorem w_table (t : Nat) (h : ins z pc = some (i, nx, p, q, r, x)) (ht : tgtOk pc i u t = true) (K : RT z (t, ls, st, M, κ) Q) : RT z (pc, ls, .int u :: st, M, κ) Q := RT_step (fun o => Run_table _ _ _ _ _ _ _ _ _ _ _ _ _ u t h ht) K
theorem w_getI (h : ins z pc = some (.getfield a, nx, p, q, r, x)) (hκ : Rd κ) (ho : isOb k p) (hf : fty p q = 0) (hv : M k q = v) (K : RT z (nx, ls, .int v :: st, M, κ) Q) : RT z (pc, ls, .ref k :: st, M, κ) Q := RT_step (fun o => Run_getI _ _ _ _ _ _ _ _ _ _ _ _ _ _ h ho.1 hf (hκ.1 ▸ ho.2)) (hv ▸ K)
theorem w_getR (d : Nat) (h : ins z pc = some (.getfield a, nx, p, q, r, x)) (hκ : Rd κ) (ho : isOb k p) (hf : fty p q = 1) (hd : k + off p q = d) (K : RT z (nx, ls, .ref d :: st, M, κ) Q) : RT z (pc, ls, .ref k :: st, M, κ) Q := RT_step (fun o => Run_getR _ _ _ _ _ _ _ _ _ _ _ _ _ _ h ho.1 hf (hκ.1 ▸ ho.2) (.inl hκ.2)) (hd ▸ K)
theorem w_getD (d : Nat) (h : ins z pc = some (.getfield a, nx, p, q, r, x)) (hκ : Rd κ) (ho : isOb k p) (hf : fty p q = 2) (hd : M k q = nI d) (h0 : 0 < d ∧ d < 200) (K : RT z (nx, ls, .ref d :: st, M, κ) Q) : RT z (pc, ls, .ref k :: st, M, κ) Q := RT_step (fun o => Run_getD _ _ _ _ _ _ _ _ _ _ _ _ _ _ _ h ho.1 hf (hκ.1 ▸ ho.2) hd h0.1 h0.2) K
theorem w_putI (h : ins z pc = some (.putfield a, nx, p, q, r, x)) (hκ : Rd κ) (ho : isOb k p) (hf : fty p q = 0) (hb : fbo p q = 1 → isB v = true) (K : RT z (nx, ls, st, stM M k q v, κ) Q) : RT z (pc, ls, .int v :: .ref k :: st, M, κ) Q := RT_step (fun o => Run_putI _ _ _ _ _ _ _ _ _ _ _ _ _ _ _ h ho.1 hf (hκ.1 ▸ ho.2) hb) K
theorem w_putD (h : ins z pc = some (.putfield a, nx, p, q, r, x)) (hκ : Rd κ) (ho : isOb k p) (hf : fty p q = 2) (h0 : 0 < d ∧ d < 200) (K : RT z (nx, ls, st, stM M k q (nI d), κ) Q) : RT z (pc, ls, .ref d :: .ref k :: st, M, κ) Q := RT_step (fun o => Run_putD _ _ _ _ _ _ _ _ _ _ _ _ _ _ _ h ho.1 hf (hκ.1 ▸ ho.2) h0.1 h0.2) K
theorem w_iald (h : ins z pc = some (.iaload, nx, p, q, r, x)) (hκ : Rd κ) (ho : isAr k n) (hi : vp_in u n) (hv : M k u.toNatClampNeg = v) (K : RT z (nx, ls, .int v :: st, M, κ) Q) : RT z (pc, ls, .int u :: .ref k :: st, M, κ) Q := RT_step (fun o => Run_iald _ _ _ _ _ _ _ _ _ _ _ _ _ _ h ho.1 (hκ.1 ▸ ho.2.2) (ho.2.1 ▸ hi)) (hv ▸ K)
theorem w_ialdN (h : ins z pc = some (.iaload, nx, p, q, r, x)) (hκ : Rd κ) (ho : isAr k n) (hi : e < n) (hn : n ≤ 200) (hv : M k e = v) (K : RT z (nx, ls, .int v :: st, M, κ) Q) : RT z (pc, ls, .int (nI e) :: .ref k :: st, M, κ) Q := w_iald h hκ ho (vp_in_nI hi (by omega)) (by rw [nI_clamp (by omega)]; exact hv) K
theorem w_zald (h : ins z pc = some (.baload, nx, p, q, r, x)) (hκ : Rd κ) (ho : isZr k n) (hi : vp_in u n) (hv : M k u.toNatClampNeg = v) (K : RT z (nx, ls, .int v :: st, M, κ) Q) : RT z (pc, ls, .int u :: .ref k :: st, M, κ) Q := RT_step (fun o => Run_zald _ _ _ _ _ _ _ _ _ _ _ _ _ _ h ho.1 (hκ.1 ▸ ho.2.2) (ho.2.1 ▸ hi)) (hv ▸ K)
theorem w_zaldN (h : ins z pc = some (.baload, nx, p, q, r, x)) (hκ : Rd κ) (ho : isZr k n) (hi : e < n) (hn : n ≤ 200) (hv : M k e = v) (K : RT z (nx, ls, .int v :: st, M, κ) Q) : RT z (pc, ls, .int (nI e) :: .ref k :: st, M, κ) Q := w_zald h hκ ho (vp_in_nI hi (by omega)) (by rw [nI_clamp (by omega)]; exact hv) K
theorem w_iast (h : ins z pc = some (.iastore, nx, p, q, r, x)) (hκ : Rd κ) (ho : isAr k n) (hi : vp_in u n) (K : RT z (nx, ls, st, stM M k u.toNatClampNeg v, κ) Q) : RT z (pc, ls, .int v :: .int u :: .ref k :: st, M, κ) Q := RT_step (fun o => Run_iast _ _ _ _ _ _ _ _ _ _ _ _ _ _ _ h ho.1 (hκ.1 ▸ ho.2.2) (ho.2.1 ▸ hi)) K
theorem w_iastN (h : ins z pc = some (.iastore, nx, p, q, r, x)) (hκ : Rd κ) (ho : isAr k n) (hi : e < n) (hn : n ≤ 200) (K : RT z (nx, ls, st, stM M k e v, κ) Q) : RT z (pc, ls, .int v :: .int (nI e) :: .ref k :: st, M, κ) Q := w_iast h hκ ho (vp_in_nI hi (by omega)) (by rw [nI_clamp (by omega)]; exact K)
theorem w_zast (h : ins z pc = some (.bastore, nx, p, q, r, x)) (hκ : Rd κ) (ho : isZr k n) (hi : vp_in u n) (hb : isB v = true) (K : RT z (nx, ls, st, stM M k u.toNatClampNeg v, κ) Q) : RT z (pc, ls, .int v :: .int u :: .ref k :: st, M, κ) Q := RT_step (fun o => Run_zast _ _ _ _ _ _ _ _ _ _ _ _ _ _ _ h ho.1 (hκ.1 ▸ ho.2.2) (ho.2.1 ▸ hi) hb) K
theorem w_zastN (h : ins z pc = some (.bastore, nx, p, q, r, x)) (hκ : Rd κ) (ho : isZr k n) (hi : e < n) (hn : n ≤ 200) (hb : isB v = true) (K : RT z (nx, ls, st, stM M k e v, κ) Q) : RT z (pc, ls, .int v :: .int (nI e) :: .ref k :: st, M, κ) Q := w_zast h hκ ho (vp_in_nI hi (by omega)) hb (by rw [nI_clamp (by omega)]; exact K)
theorem w_aald (d : Nat) (h : ins z pc = some (.aaload, nx, p, q, r, x)) (hκ : Rd κ) (ho : (kd k = 22 ∨ kd k = 23) ∧ k < 180) (hi : vp_in u 6) (hd : elb k + 18 * u.toNatClampNeg = d) (K : RT z (nx, ls, .ref d :: st, M, κ) Q) : RT z (pc, ls, .int u :: .ref k :: st, M, κ) Q := RT_step (fun o => Run_aald _ _ _ _ _ _ _ _ _ _ _ _ _ _ h ho.1 (hκ.1 ▸ ho.2) hi (.inl hκ.2)) (hd ▸ K)
theorem w_aaldN (d : Nat) (h : ins z pc = some (.aaload, nx, p, q, r, x)) (hκ : Rd κ) (ho : (kd k = 22 ∨ kd k = 23) ∧ k < 180) (hi : e < 6) (hd : elb k + 18 * e = d) (K : RT z (nx, ls, .ref d :: st, M, κ) Q) : RT z (pc, ls, .int (nI e) :: .ref k :: st, M, κ) Q := w_aald d h hκ ho (vp_in_nI hi (by omega)) (by rw [nI_clamp (by omega)]; exact hd) K
theorem w_slen (h : ins z pc = some (.arraylength, nx, p, q, r, x)) (K : RT z (nx, ls, .int (Int32.ofNat (kL κ)) :: st, M, κ) Q) : RT z (pc, ls, .ref 999 :: st, M, κ) Q := RT_step (fun o => Run_slen _ _ _ _ _ _ _ _ _ _ _ _ h) K
theorem w_sald (h : ins z pc = some (.iaload, nx, p, q, r, x)) (hi : vp_in u (kL κ)) (K : RT z (nx, ls, .int (M 999 u.toNatClampNeg) :: st, M, κ) Q) : RT z (pc, ls, .int u :: .ref 999 :: st, M, κ) Q := RT_step (fun o => Run_sald _ _ _ _ _ _ _ _ _ _ _ _ _ h hi) K
theorem w_lald (h : ins z pc = some (.laload, nx, p, q, r, x)) (hκ : Rd κ) (ho : kd k = 24 ∧ k < 180) (hi : vp_in u 1) (K : RT z (nx, ls, .long (kX κ k).toInt64 :: st, M, κ) Q) : RT z (pc, ls, .int u :: .ref k :: st, M, κ) Q := RT_step (fun o => Run_lald _ _ _ _ _ _ _ _ _ _ _ _ _ _ h ho.1 (hκ.1 ▸ ho.2) hi) K
theorem w_dald (h : ins z pc = some (.daload, nx, p, q, r, x)) (hκ : Rd κ) (ho : kd k = 25 ∧ k < 180) (hi : vp_in u 1) (K : RT z (nx, ls, .double (kX κ k) :: st, M, κ) Q) : RT z (pc, ls, .int u :: .ref k :: st, M, κ) Q := RT_step (fun o => Run_dald _ _ _ _ _ _ _ _ _ _ _ _ _ _ h ho.1 (hκ.1 ▸ ho.2) hi) K
theorem w_last {v : Int64} (h : ins z pc = some (.lastore, nx, p, q, r, x)) (hκ : Rd κ) (ho : kd k = 24 ∧ k < 180) (hi : vp_in u 1) (K : RT z (nx, ls, st, M, (κ.1, stX (kX κ) k v.toUInt64, κ.2.2)) Q) : RT z (pc, ls, .long v :: .int u :: .ref k :: st, M, κ) Q := RT_step (fun o => Run_last _ _ _ _ _ _ _ _ _ _ _ _ _ _ _ h ho.1 (hκ.1 ▸ ho.2) hi) K
theorem w_dast {v : UInt64} (h : ins z pc = some (.dastore, nx, p, q, r, x)) (hκ : Rd κ) (ho : kd k = 25 ∧ k < 180) (hi : vp_in u 1) (K : RT z (nx, ls, st, M, (κ.1, stX (kX κ) k v, κ.2.2)) Q) : RT z (pc, ls, .double v :: .int u :: .ref k :: st, M, κ) Q := RT_step (fun o => Run_dast _ _ _ _ _ _ _ _ _ _ _ _ _ _ _ h ho.1 (hκ.1 ▸ ho.2) hi) K
theorem w_weak (hl : lle l1 ls) (K : RT z (pc, l1, st, M, κ) Q) : RT z (pc, ls, st, M, κ) Q := RT_step (fun o => Run_weak _ _ _ _ _ _ _ _ hl) K
theorem lle_n : lle [] [] := ⟨rfl, fun i v h => by cases h⟩
theorem lle_s {v : Value} (h : lle l1 ls) : lle (v :: l1) (v :: ls) := ⟨by simp [h.1], fun i w hw => by
  match i, hw with
  | 0, hw => exact .inr hw
  | j + 1, hw => exact h.2 j w hw⟩
theorem lle_u {v : Value} (h : lle l1 ls) : lle (UU :: l1) (v :: ls) := ⟨by simp [h.1], fun i w hw => by
  match i, hw with
  | 0, hw => exact .inl (Option.some.inj hw).symm
  | j + 1, hw => exact h.2 j w hw⟩
theorem w_mmax (h : ins z pc = some (i, nx, 164, q, r, x)) (hi : ik i = 1) (hq : q < 6) (hr : (st.map fun v => v.category).sum ≤ 4) (K : RT z (nx, ls, .int (mx u v) :: st, M, κ) Q) : RT z (pc, ls, .int v :: .int u :: st, M, κ) Q := RT_step (fun o => Run_mmax _ _ _ _ _ _ _ _ _ _ _ _ u v h hi hq hr) K
theorem w_mabs (h : ins z pc = some (i, nx, 165, q, r, x)) (hi : ik i = 1) (hq : q < 6) (hr : (st.map fun v => v.category).sum ≤ 4) (K : RT z (nx, ls, .int (ab u) :: st, M, κ) Q) : RT z (pc, ls, .int u :: st, M, κ) Q := RT_step (fun o => Run_mabs _ _ _ _ _ _ _ _ _ _ _ _ u h hi hq hr) K
theorem w_iret (h : ins z pc = some (.ireturn, nx, p, q, r, x)) (ht : rt z = some .int ∨ (rt z = some .boolean ∧ isB v = true)) (K : Q (.inl (some (.int v)), M, κ)) : RT z (pc, ls, [.int v], M, κ) Q := ⟨_, Run_iret _ _ _ [] _ _ (.inr 0, M, κ) _ _ _ _ _ v h ht, K⟩
theorem w_lret {v : Int64} (h : ins z pc = some (.lreturn, nx, p, q, r, x)) (ht : rt z = some .long) (K : Q (.inl (some (.long v)), M, κ)) : RT z (pc, ls, [.long v], M, κ) Q := ⟨_, Run_lret _ _ _ [] _ _ (.inr 0, M, κ) _ _ _ _ _ v h ht, K⟩
theorem w_dret {v : UInt64} (h : ins z pc = some (.dreturn, nx, p, q, r, x)) (ht : rt z = some .double) (K : Q (.inl (some (.double v)), M, κ)) : RT z (pc, ls, [.double v], M, κ) Q := ⟨_, Run_dret _ _ _ [] _ _ (.inr 0, M, κ) _ _ _ _ _ v h ht, K⟩
theorem w_vret (h : ins z pc = some (.return_, nx, p, q, r, x)) (ht : rt z = none) (K : Q (.inl none, M, κ)) : RT z (pc, ls, [], M, κ) Q := ⟨_, Run_vret _ _ _ [] _ _ (.inr 0, M, κ) _ _ _ _ _ h ht, K⟩
theorem w_throw (h : ins z pc = some (.new a, nx, p, q, r, x)) (hq : q = 1) (hκ : Rd κ) (hz : z < 166) (hh0 : hh z = []) (hr : rm8 st) (K : Q (.inr p, M, (κ.1, κ.2.1, κ.2.2.1, kN κ, kC κ + 1, kU κ + 6))) : RT z (pc, ls, st, M, κ) Q := ⟨_, Run_throw _ _ _ _ _ _ (.inr 0, M, κ) _ _ _ _ _ a h hq hκ.2 hz hh0 hr, K⟩
theorem c1s_r {av : List Value} (h : c1s av = true) : c1s (Value.ref k :: av) = true := h
/-- a call of a static method that leaves the memory -/
theorem w_callS {av rest : List Value} {v : Option Value} (h : ins z pc = some (i, nx, y, q, r, x)) (hi : ik i ≠ 3 ∧ y < 164 ∧ q < 6 ∧ av.length = r ∧ kOf q = 1) (hs : st = av.reverse ++ rest) (hc : c1s av = true) (hr : rm8 rest) (C : Run y (0, entL y av, [], M, κ) (.inl v, M1, κ1)) (K : RT z (nx, ls, v.toList ++ rest, M1, κ1) Q) : RT z (pc, ls, st, M, κ) Q := RT_step (fun o k => Run_call _ _ _ _ _ _ _ _ _ _ _ _ _ av rest v M1 κ1 h hi.1 hi.2.1 hi.2.2.1 hs hi.2.2.2.1 hc hr (fun e => absurd hi.2.2.2.2 e) C k) K
theorem w_callV {av rest : List Value} {v : Option Value} (h : ins z pc = some (i, nx, y, q, r, x)) (hi : ik i ≠ 3 ∧ y < 164 ∧ q < 6 ∧ av.length + 1 = r) (hκ : Rd κ) (ho : isOb k (oc y)) (hs : st = (Value.ref k :: av).reverse ++ rest) (hc : c1s av = true) (hr : rm8 rest) (C : Run y (0, entL y (.ref k :: av), [], M, κ) (.inl v, M1, κ1)) (K : RT z (nx, ls, v.toList ++ rest, M1, κ1) Q) : RT z (pc, ls, st, M, κ) Q := RT_step (fun o k' => Run_call _ _ _ _ _ _ _ _ _ _ _ _ _ (.ref k :: av) rest v M1 κ1 h hi.1 hi.2.1 hi.2.2.1 hs hi.2.2.2 (c1s_r hc) hr (fun _ => ⟨k, av, rfl, ho.1, hκ.1 ▸ ho.2⟩) C k') K
theorem w_callSI {av rest : List Value} (h : ins z pc = some (i, nx, y, q, r, x)) (hi : ik i ≠ 3 ∧ y < 164 ∧ q < 6 ∧ av.length = r ∧ kOf q = 1) (hs : st = av.reverse ++ rest) (hc : c1s av = true) (hr : rm8 rest) (C : RT y (0, entL y av, [], M, κ) (fun o => ∃ v M1 κ1, o = (.inl v, M1, κ1) ∧ RT z (nx, ls, v.toList ++ rest, M1, κ1) Q)) : RT z (pc, ls, st, M, κ) Q := by
  obtain ⟨o, k1, v, M1, κ1, rfl, k2⟩ := C
  exact w_callS h hi hs hc hr k1 k2
theorem w_callVI {av rest : List Value} (h : ins z pc = some (i, nx, y, q, r, x)) (hi : ik i ≠ 3 ∧ y < 164 ∧ q < 6 ∧ av.length + 1 = r) (hκ : Rd κ) (ho : isOb k (oc y)) (hs : st = (Value.ref k :: av).reverse ++ rest) (hc : c1s av = true) (hr : rm8 rest) (C : RT y (0, entL y (.ref k :: av), [], M, κ) (fun o => ∃ v M1 κ1, o = (.inl v, M1, κ1) ∧ RT z (nx, ls, v.toList ++ rest, M1, κ1) Q)) : RT z (pc, ls, st, M, κ) Q := by
  obtain ⟨o, k1, v, M1, κ1, rfl, k2⟩ := C
  exact w_callV h hi hκ ho hs hc hr k1 k2
/-- a call that may throw through us -/
theorem w_callVT {av rest : List Value} (h : ins z pc = some (i, nx, y, q, r, x)) (hi : ik i ≠ 3 ∧ y < 164 ∧ q < 6 ∧ av.length + 1 = r) (h0 : q = 0 ∧ z < 166 ∧ hh z = []) (hκ : Rd κ) (ho : isOb k (oc y)) (hs : st = (Value.ref k :: av).reverse ++ rest) (hc : c1s av = true) (hr : rm8 rest) (C : RT y (0, entL y (.ref k :: av), [], M, κ) (fun o => (∃ v M1 κ1, o = (.inl v, M1, κ1) ∧ RT z (nx, ls, v.toList ++ rest, M1, κ1) Q) ∨ ∃ f M1 κ1, o = (.inr f, M1, κ1) ∧ Q (.inr f, M1, κ1))) : RT z (pc, ls, st, M, κ) Q := by
  obtain ⟨o, k1, ⟨v, M1, κ1, rfl, k2⟩ | ⟨f, M1, κ1, rfl, k2⟩⟩ := C
  · exact w_callV h hi hκ ho hs hc hr k1 k2
  · exact ⟨_, Run_callT _ _ _ _ _ _ (.inr 0, M, κ) _ _ _ _ _ _ (.ref k :: av) rest f M1 κ1 h hi.1 hi.2.1 hi.2.2.1 hs hi.2.2.2 (c1s_r hc) hr (fun _ => ⟨k, av, rfl, ho.1, hκ.1 ▸ ho.2⟩) h0.1 h0.2.1 h0.2.2 k1, k2⟩
/-- a call of one that has handlers -/
theorem w_callVC {av rest : List Value} (h : ins z pc = some (i, nx, y, q, r, x)) (hi : ik i ≠ 3 ∧ y < 164 ∧ q < 6 ∧ av.length + 1 = r) (h0 : q = 0 ∧ z < 166) (hκ : Rd κ) (ho : isOb k (oc y)) (hs : st = (Value.ref k :: av).reverse ++ rest) (hc : c1s av = true) (hr : rm8 rest) (C : RT y (0, entL y (.ref k :: av), [], M, κ) (fun o => (∃ v M1 κ1, o = (.inl v, M1, κ1) ∧ RT z (nx, ls, v.toList ++ rest, M1, κ1) Q) ∨ ∃ f M1 κ1 w n hp, o = (.inr f, M1, κ1) ∧ (z, f, w, n, hp) ∈ hdL ∧ Q (.inl (some (.int w)), M1, κ1))) : RT z (pc, ls, st, M, κ) Q := by
  obtain ⟨o, k1, ⟨v, M1, κ1, rfl, k2⟩ | ⟨f, M1, κ1, w, n, hp, rfl, hm, k2⟩⟩ := C
  · exact w_callV h hi hκ ho hs hc hr k1 k2
  · exact ⟨_, Run_callC _ _ _ _ _ _ (.inr 0, M, κ) _ _ _ _ _ _ (.ref k :: av) rest f n hp M1 κ1 w h hi.1 hi.2.1 hi.2.2.1 hs hi.2.2.2 (c1s_r hc) hr (fun _ => ⟨k, av, rfl, ho.1, hκ.1 ▸ ho.2⟩) h0.1 h0.2 hm k1, k2⟩
end WALK
