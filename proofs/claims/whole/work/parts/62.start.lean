/-! THE START: the constructors, done by a small evaluator that the kernel runs; the claim's run -/
section P_62_start
abbrev Tl : Type := List (Nat × Nat × Int32)
/-- pc, locals, stack, what was stored (the latest first), objects, cells, slots -/
abbrev CS : Type := Nat × List Value × List Value × Tl × Nat × Nat × Nat
def MT (M : Mem) : Tl → Mem
  | [] => M
  | e :: t => stM (MT M t) e.1 e.2.1 e.2.2
def lkp (k j : Nat) : Tl → Int32
  | [] => 0
  | e :: t => if k = e.1 ∧ j = e.2.1 then e.2.2 else lkp k j t
theorem MT_lkp {xs : Nat → Int32} {k j : Nat} (hk : k ≠ 999) : ∀ t : Tl, MT (M0 xs) t k j = lkp k j t
  | [] => if_neg hk
  | e :: t => by
    show (if k = e.1 ∧ j = e.2.1 then e.2.2 else MT (M0 xs) t k j) = (if k = e.1 ∧ j = e.2.1 then e.2.2 else lkp k j t)
    rw [MT_lkp hk t]
theorem lkp_fresh {N : Nat} : ∀ {t : Tl}, (∀ e ∈ t, e.1 < N) → ∀ j, lkp N j t = 0
  | [], _, _ => rfl
  | e :: t, h, j => by
    have h1 := h e List.mem_cons_self
    show (if N = e.1 ∧ j = e.2.1 then e.2.2 else lkp N j t) = 0
    rw [if_neg (by omega)]
    exact lkp_fresh (fun e' he' => h e' (List.mem_cons_of_mem _ he')) j
theorem MT_fresh {xs : Nat → Int32} {N : Nat} {t : Tl} (h : ∀ e ∈ t, e.1 < N) (hN : N < 180) (j : Nat) : MT (M0 xs) t N j = 0 := (MT_lkp (by omega) t).trans (lkp_fresh h j)
def cnc (L : Nat) (xs : Nat → Int32) (s : CS) : St := (s.1, s.2.1, s.2.2.1, MT (M0 xs) s.2.2.2.1, (L, fun _ => 0, false, s.2.2.2.2.1, s.2.2.2.2.2.1, s.2.2.2.2.2.2))
def ctz : List Nat := [0, 14, 34, 36, 49, 57, 64, 93]
theorem ctz_isI : ∀ z ∈ ctz, isI z = true := by decide +kernel
theorem ite_some {α : Type} {c : Prop} [Decidable c] {a b : α} (h : (if c then some a else none) = some b) : c ∧ a = b := by
  by_cases hc : c
  · rw [if_pos hc] at h
    exact ⟨hc, Option.some.inj h⟩
  · rw [if_neg hc] at h
    cases h
/-- one instruction, but a call -/
def cstp (z pc : Nat) (ls st : List Value) (t : Tl) (N C U : Nat) : Option CS :=
  if z = 166 ∧ 28 ≤ pc then none else
  match ins z pc with
  | none => none
  | some (i, nx, p, q, _, x) =>
    if isPush i = true then some (nx, ls, .int x :: st, t, N, C, U)
    else if ldOk i (ls.getD p UU) = true ∧ p < ls.length then some (nx, ls, ls.getD p UU :: st, t, N, C, U)
    else match i, st with
      | .dup, v :: rs => if v.category = 1 then some (nx, ls, v :: v :: rs, t, N, C, U) else none
      | .iinc _ _, st => match ls[p]? with
        | some (.int y) => some (nx, setl ls p (.int (y + x)), st, t, N, C, U)
        | _ => none
      | .goto _, st => some (p, ls, st, t, N, C, U)
      | .if_icmp .ge _, .int b :: .int a :: rs => if b ≤ a then some (p, ls, rs, t, N, C, U) else some (nx, ls, rs, t, N, C, U)
      | .new _, st => if q = 0 ∧ kd N = p ∧ p ≤ 7 ∧ N < 180 then some (nx, ls, .ref N :: st, t, N + 1, C + 1, U + nf p) else none
      | .newarray _, .int n :: rs => if kd N = p ∧ 20 ≤ p ∧ p ≠ 22 ∧ p ≠ 23 ∧ n.toNatClampNeg = ln N ∧ ¬ n < 0 ∧ N < 180 then some (nx, ls, .ref N :: rs, t, N + 1, C + 1, U + ln N) else none
      | .anewarray _, .int n :: rs => if n = 6 ∧ kd N = p ∧ (p = 22 ∨ p = 23) ∧ N < 180 then some (nx, ls, .ref N :: rs, t, N + 1, C + 1, U + 6) else none
      | .putfield _, .int v :: .ref k :: rs => if kd k = p ∧ fty p q = 0 ∧ k < N ∧ (fbo p q = 1 → isB v = true) then some (nx, ls, rs, (k, q, v) :: t, N, C, U) else none
      | .putfield _, .ref d :: .ref k :: rs => if fty p q = 1 then (if kd k = p ∧ k < N ∧ d = k + off p q ∧ z ∈ ctz ∧ oc z = p then some (nx, ls, rs, (k, q, 1) :: t, N, C, U) else none) else (if kd k = p ∧ fty p q = 2 ∧ k < N ∧ 0 < d ∧ d < 200 then some (nx, ls, rs, (k, q, nI d) :: t, N, C, U) else none)
      | .getfield _, .ref k :: rs => if kd k = p ∧ fty p q = 1 ∧ k < N ∧ N ≤ 180 ∧ lkp k q t ≠ 0 then some (nx, ls, .ref (k + off p q) :: rs, t, N, C, U) else none
      | .aastore, .ref d :: .int a :: .ref k :: rs => if (kd k = 22 ∨ kd k = 23) ∧ k < N ∧ d < N ∧ ¬ (a < 0 ∨ 6 ≤ a.toNatClampNeg) ∧ d = elb k + 18 * a.toNatClampNeg ∧ kd d = (if kd k = 22 then 0 else 5) then some (nx, ls, rs, (k, a.toNatClampNeg, 1) :: t, N, C, U) else none
      | .invokespecial _, .ref _ :: rs => if q = 9 ∧ rm8 rs then some (nx, ls, rs, t, N, C, U) else none
      | i, v :: rs => if stOk i v = true ∧ p + v.category ≤ ls.length then some (nx, setl ls p v, rs, t, N, C, U) else none
      | _, _ => none
theorem lt_more {N : Nat} {t : Tl} (h : ∀ e ∈ t, e.1 < N) : ∀ e ∈ t, e.1 < N + 1 := fun e he => Nat.lt_succ_of_lt (h e he)
theorem lt_cons {N k q : Nat} {v : Int32} {t : Tl} (h : ∀ e ∈ t, e.1 < N) (hk : k < N) : ∀ e ∈ (k, q, v) :: t, e.1 < N := by
  intro e he
  rcases List.mem_cons.mp he with rfl | he
  · exact hk
  · exact h e he
theorem stp_sound {L : Nat} {xs : Nat → Int32} {z pc : Nat} {ls st : List Value} {t : Tl} {N C U : Nat} {s' : CS} (hi : ∀ e ∈ t, e.1 < N) (h : cstp z pc ls st t N C U = some s') : (∀ e ∈ s'.2.2.2.1, e.1 < s'.2.2.2.2.1) ∧ ∀ out, Run z (cnc L xs s') out → Run z (cnc L xs (pc, ls, st, t, N, C, U)) out := by
  unfold cstp at h
  split at h
  · cases h
  split at h
  · cases h
  rename_i i nx p q r x hins
  split at h
  · rename_i hc
    cases h
    exact ⟨hi, fun out k => Run_push _ _ _ _ _ _ _ _ _ _ _ _ _ hins hc k⟩
  split at h
  · rename_i hc
    cases h
    refine ⟨hi, fun out k => Run_load _ _ _ _ _ _ _ _ _ _ _ _ _ _ hins hc.1 ?_ k⟩
    show ls[p]? = some (ls.getD p UU)
    rw [List.getD_eq_getElem?_getD, List.getElem?_eq_getElem hc.2]
    rfl
  split at h
  · obtain ⟨hc, rfl⟩ := ite_some h
    exact ⟨hi, fun out k => Run_dup _ _ _ _ _ _ _ _ _ _ _ _ _ hins hc k⟩
  · split at h
    · rename_i hy
      cases h
      exact ⟨hi, fun out k => Run_iinc _ _ _ _ _ _ _ _ _ _ _ _ _ _ _ hins hy k⟩
    · cases h
  · cases h
    exact ⟨hi, fun out k => Run_goto _ _ _ _ _ _ _ _ _ _ _ _ _ hins k⟩
  · split at h
    · rename_i hc
      cases h
      exact ⟨hi, fun out k => Run_if2 _ _ _ _ _ _ _ _ _ _ _ _ _ _ _ _ hins (fun _ => k) (fun c => absurd hc c)⟩
    · rename_i hc
      cases h
      exact ⟨hi, fun out k => Run_if2 _ _ _ _ _ _ _ _ _ _ _ _ _ _ _ _ hins (fun c => absurd c hc) (fun _ => k)⟩
  · obtain ⟨hc, rfl⟩ := ite_some h
    exact ⟨lt_more hi, fun out k => Run_new _ _ _ _ _ _ _ _ _ _ _ _ _ hins hc.1 rfl hc.2.1 hc.2.2.1 (MT_fresh hi hc.2.2.2) k⟩
  · obtain ⟨hc, rfl⟩ := ite_some h
    exact ⟨lt_more hi, fun out k => Run_newa _ _ _ _ _ _ _ _ _ _ _ _ _ _ hins rfl hc.1 hc.2.1 hc.2.2.1 hc.2.2.2.1 hc.2.2.2.2.1 hc.2.2.2.2.2.1 (MT_fresh hi hc.2.2.2.2.2.2) (fun _ => rfl) k⟩
  · obtain ⟨hc, rfl⟩ := ite_some h
    obtain ⟨rfl, h1, h2, h3⟩ := hc
    exact ⟨lt_more hi, fun out k => Run_anew _ _ _ _ _ _ _ _ _ _ _ _ _ hins rfl h1 h2 (MT_fresh hi h3) k⟩
  · obtain ⟨hc, rfl⟩ := ite_some h
    exact ⟨lt_cons hi hc.2.2.1, fun out k => Run_putI _ _ _ _ _ _ _ _ _ _ _ _ _ _ _ hins hc.1 hc.2.1 hc.2.2.1 hc.2.2.2 k⟩
  · split at h
    · rename_i hf
      obtain ⟨hc, rfl⟩ := ite_some h
      exact ⟨lt_cons hi hc.2.1, fun out k => Run_putR _ _ _ _ _ _ _ _ _ _ _ _ _ _ _ hins hc.1 hf hc.2.1 hc.2.2.1 (ctz_isI z hc.2.2.2.1) hc.2.2.2.2 k⟩
    · obtain ⟨hc, rfl⟩ := ite_some h
      exact ⟨lt_cons hi hc.2.2.1, fun out k => Run_putD _ _ _ _ _ _ _ _ _ _ _ _ _ _ _ hins hc.1 hc.2.1 hc.2.2.1 hc.2.2.2.1 hc.2.2.2.2 k⟩
  · obtain ⟨hc, rfl⟩ := ite_some h
    exact ⟨hi, fun out k => Run_getR _ _ _ _ _ _ _ _ _ _ _ _ _ _ hins hc.1 hc.2.1 hc.2.2.1 (.inr (fun e => hc.2.2.2.2 ((MT_lkp (Nat.ne_of_lt (Nat.lt_of_lt_of_le hc.2.2.1 (Nat.le_trans hc.2.2.2.1 (by decide)))) t).symm.trans e))) k⟩
  · obtain ⟨hc, rfl⟩ := ite_some h
    exact ⟨lt_cons hi hc.2.1, fun out k => Run_aast _ _ _ _ _ _ _ _ _ _ _ _ _ _ _ hins hc.1 hc.2.1 hc.2.2.1 hc.2.2.2.1 hc.2.2.2.2.1 hc.2.2.2.2.2 k⟩
  · obtain ⟨hc, rfl⟩ := ite_some h
    exact ⟨hi, fun out k => Run_oinit _ _ _ _ _ _ _ _ _ _ _ _ _ _ hins hc.1 hc.2 k⟩
  · obtain ⟨hc, rfl⟩ := ite_some h
    exact ⟨hi, fun out k => Run_store _ _ _ _ _ _ _ _ _ _ _ _ _ _ hins hc.1 hc.2 k⟩
  · cases h
/-- a constructor is called: which, of what, what is below, where it goes on -/
def clc (z pc : Nat) (st : List Value) (N : Nat) : Option (Nat × Nat × List Value × Nat) :=
  match ins z pc, st with
  | some (.invokespecial _, nx, y, q, r, _), .ref k :: rest => if y < 164 ∧ (q = 3 ∨ q = 4) ∧ r = 1 ∧ rm8 rest ∧ kd k = oc y ∧ k < N then some (y, k, rest, nx) else none
  | _, _ => none
def rtq (y pc : Nat) (st : List Value) : Bool := match ins y pc, st with
  | some (.return_, _, _, _, _, _), [] => (rt y).isNone
  | _, _ => false
theorem clc_spec {z pc N y k nx : Nat} {st rest : List Value} (h : clc z pc st N = some (y, k, rest, nx)) : ∃ a q r x, ins z pc = some (.invokespecial a, nx, y, q, r, x) ∧ st = .ref k :: rest ∧ y < 164 ∧ (q = 3 ∨ q = 4) ∧ r = 1 ∧ rm8 rest ∧ kd k = oc y ∧ k < N := by
  unfold clc at h
  split at h
  · rename_i hins
    obtain ⟨hc, he⟩ := ite_some h
    cases he
    exact ⟨_, _, _, _, hins, rfl, hc⟩
  · cases h
theorem rtq_spec {y pc : Nat} {st : List Value} (h : rtq y pc st = true) : ∃ nx p q r x, ins y pc = some (.return_, nx, p, q, r, x) ∧ st = [] ∧ rt y = none := by
  unfold rtq at h
  split at h
  · rename_i hins
    exact ⟨_, _, _, _, _, hins, rfl, Option.isNone_iff_eq_none.mp h⟩
  · cases h
def evc : Nat → Nat → Nat → List Value → List Value → Tl → Nat → Nat → Nat → CS
  | 0, _, pc, ls, st, t, N, C, U => (pc, ls, st, t, N, C, U)
  | f + 1, z, pc, ls, st, t, N, C, U =>
    match cstp z pc ls st t N C U with
    | some (pc1, ls1, st1, t1, N1, C1, U1) => evc f z pc1 ls1 st1 t1 N1 C1 U1
    | none => match clc z pc st N with
      | none => (pc, ls, st, t, N, C, U)
      | some (y, k, rest, nx) => match evc f y 0 (entL y [.ref k]) [] t N C U with
        | (pc1, _, st1, t1, N1, C1, U1) => if rtq y pc1 st1 = true then evc f z nx ls rest t1 N1 C1 U1 else (pc, ls, st, t, N, C, U)
theorem evc_sound {L : Nat} {xs : Nat → Int32} : ∀ (f z pc : Nat) (ls st : List Value) (t : Tl) (N C U : Nat), (∀ e ∈ t, e.1 < N) → (∀ e ∈ (evc f z pc ls st t N C U).2.2.2.1, e.1 < (evc f z pc ls st t N C U).2.2.2.2.1) ∧ ∀ out, Run z (cnc L xs (evc f z pc ls st t N C U)) out → Run z (cnc L xs (pc, ls, st, t, N, C, U)) out := fun f => by
  induction f with
  | zero => exact fun z pc ls st t N C U hi => ⟨hi, fun _ k => k⟩
  | succ f ih =>
    intro z pc ls st t N C U hi
    unfold evc
    split
    · rename_i pc1 ls1 st1 t1 N1 C1 U1 heq
      obtain ⟨a, b⟩ := stp_sound (L := L) (xs := xs) hi heq
      obtain ⟨c, d⟩ := ih z pc1 ls1 st1 t1 N1 C1 U1 a
      exact ⟨c, fun out k => b out (d out k)⟩
    · split
      · exact ⟨hi, fun _ k => k⟩
      · rename_i y k rest nx hcl
        obtain ⟨a, q, r, x, hins, rfl, hy, hq, rfl, hr, hk, hN⟩ := clc_spec hcl
        obtain ⟨c, d⟩ := ih y 0 (entL y [.ref k]) [] t N C U hi
        split
        rename_i pc1 ls1 st1 t1 N1 C1 U1 heq
        rw [heq] at c d
        split
        · rename_i hrt
          obtain ⟨nx2, p2, q2, r2, x2, hins2, rfl, hn⟩ := rtq_spec hrt
          have hcall := d _ (Run_vret _ _ _ [] _ _ (.inr 0, M0 xs, K0 L) _ _ _ _ _ hins2 hn)
          obtain ⟨c2, d2⟩ := ih z nx ls rest t1 N1 C1 U1 c
          refine ⟨c2, fun out k2 => Run_call _ _ _ _ _ _ _ _ _ _ _ _ _ [.ref k] rest none _ _ hins (show (2 : Nat) ≠ 3 by decide) hy (by omega) rfl rfl rfl hr (fun _ => ⟨k, [], rfl, hk, hN⟩) hcall (d2 out k2)⟩
        · exact ⟨hi, fun _ k => k⟩
def FT : Tl := [(134, 52, 1), (134, 51, 1), (134, 50, 1), (134, 49, 1), (134, 48, 1), (134, 47, 1), (134, 46, 1), (134, 45, 1), (134, 44, 1), (134, 43, 1), (134, 42, 1), (134, 41, 1), (134, 40, 1), (134, 39, 1), (134, 38, 1), (134, 37, 1), (134, 36, 1), (134, 35, 1), (134, 34, 1), (134, 33, 1), (134, 32, 1), (134, 31, 1), (134, 30, 1), (134, 29, 1), (134, 28, 1), (134, 27, 1), (134, 26, 1), (134, 25, 1), (134, 24, 1), (134, 23, 1), (134, 22, 1), (134, 21, 1), (134, 18, 1), (134, 17, 1), (134, 16, 1), (134, 15, 1), (134, 14, 1), (134, 13, 1), (134, 12, 1), (134, 11, 1), (134, 10, 1), (134, 9, 1), (134, 8, 1), (134, 6, 2), (134, 5, 8), (134, 4, 3), (134, 3, 1), (134, 2, 1), (134, 1, 2), (0, 9, 130), (130, 5, 1), (130, 4, 1), (130, 3, 1), (130, 2, 0), (130, 1, 0), (130, 0, 0), (0, 8, 126), (126, 5, 1), (126, 4, 1), (126, 3, 1), (126, 2, 0), (126, 1, 0), (126, 0, 0), (0, 7, 0), (0, 6, 0), (0, 5, 1), (122, 2, 1), (122, 1, 1), (122, 0, 1), (0, 4, 1), (113, 11, 1), (113, 10, 1), (113, 9, 1), (113, 8, 1), (113, 7, 1), (113, 6, 1), (113, 5, 1), (113, 4, 1), (113, 3, 0), (113, 2, 0), (113, 1, 0), (113, 0, 0), (4, 5, 1), (109, 7, 1), (109, 6, 1), (109, 5, 1), (109, 4, 0), (109, 3, 0), (109, 2, 0), (109, 1, 0), (109, 0, 0), (3, 5, 1), (102, 11, 1), (102, 10, 1), (102, 9, 1), (102, 8, 1), (102, 7, 1), (102, 6, 1), (102, 5, 0), (102, 4, 0), (102, 3, 0), (102, 2, 0), (102, 1, 0), (102, 0, 0), (2, 5, 1), (95, 11, 1), (95, 10, 1), (95, 9, 1), (95, 8, 1), (95, 7, 1), (95, 6, 1), (95, 5, 0), (95, 4, 0), (95, 3, 0), (95, 2, 0), (95, 1, 0), (95, 0, 0), (4, 4, 1), (91, 7, 1), (91, 6, 1), (91, 5, 1), (91, 4, 0), (91, 3, 0), (91, 2, 0), (91, 1, 0), (91, 0, 0), (3, 4, 1), (84, 11, 1), (84, 10, 1), (84, 9, 1), (84, 8, 1), (84, 7, 1), (84, 6, 1), (84, 5, 0), (84, 4, 0), (84, 3, 0), (84, 2, 0), (84, 1, 0), (84, 0, 0), (2, 4, 1), (77, 11, 1), (77, 10, 1), (77, 9, 1), (77, 8, 1), (77, 7, 1), (77, 6, 1), (77, 5, 0), (77, 4, 0), (77, 3, 0), (77, 2, 0), (77, 1, 0), (77, 0, 0), (4, 3, 1), (73, 7, 1), (73, 6, 1), (73, 5, 1), (73, 4, 0), (73, 3, 0), (73, 2, 0), (73, 1, 0), (73, 0, 0), (3, 3, 1), (66, 11, 1), (66, 10, 1), (66, 9, 1), (66, 8, 1), (66, 7, 1), (66, 6, 1), (66, 5, 0), (66, 4, 0), (66, 3, 0), (66, 2, 0), (66, 1, 0), (66, 0, 0), (2, 3, 1), (59, 11, 1), (59, 10, 1), (59, 9, 1), (59, 8, 1), (59, 7, 1), (59, 6, 1), (59, 5, 0), (59, 4, 0), (59, 3, 0), (59, 2, 0), (59, 1, 0), (59, 0, 0), (4, 2, 1), (55, 7, 1), (55, 6, 1), (55, 5, 1), (55, 4, 0), (55, 3, 0), (55, 2, 0), (55, 1, 0), (55, 0, 0), (3, 2, 1), (48, 11, 1), (48, 10, 1), (48, 9, 1), (48, 8, 1), (48, 7, 1), (48, 6, 1), (48, 5, 0), (48, 4, 0), (48, 3, 0), (48, 2, 0), (48, 1, 0), (48, 0, 0), (2, 2, 1), (41, 11, 1), (41, 10, 1), (41, 9, 1), (41, 8, 1), (41, 7, 1), (41, 6, 1), (41, 5, 0), (41, 4, 0), (41, 3, 0), (41, 2, 0), (41, 1, 0), (41, 0, 0), (4, 1, 1), (37, 7, 1), (37, 6, 1), (37, 5, 1), (37, 4, 0), (37, 3, 0), (37, 2, 0), (37, 1, 0), (37, 0, 0), (3, 1, 1), (30, 11, 1), (30, 10, 1), (30, 9, 1), (30, 8, 1), (30, 7, 1), (30, 6, 1), (30, 5, 0), (30, 4, 0), (30, 3, 0), (30, 2, 0), (30, 1, 0), (30, 0, 0), (2, 1, 1), (23, 11, 1), (23, 10, 1), (23, 9, 1), (23, 8, 1), (23, 7, 1), (23, 6, 1), (23, 5, 0), (23, 4, 0), (23, 3, 0), (23, 2, 0), (23, 1, 0), (23, 0, 0), (4, 0, 1), (19, 7, 1), (19, 6, 1), (19, 5, 1), (19, 4, 0), (19, 3, 0), (19, 2, 0), (19, 1, 0), (19, 0, 0), (3, 0, 1), (12, 11, 1), (12, 10, 1), (12, 9, 1), (12, 8, 1), (12, 7, 1), (12, 6, 1), (12, 5, 0), (12, 4, 0), (12, 3, 0), (12, 2, 0), (12, 1, 0), (12, 0, 0), (2, 0, 1), (5, 11, 1), (5, 10, 1), (5, 9, 1), (5, 8, 1), (5, 7, 1), (5, 6, 1), (5, 5, 0), (5, 4, 0), (5, 3, 0), (5, 2, 0), (5, 1, 0), (5, 0, 0), (0, 3, 1), (0, 2, 1), (0, 1, 1), (0, 0, 1), (1, 5, 2), (1, 4, 8), (1, 3, 3), (1, 2, 1), (1, 1, 1), (1, 0, 2)]
theorem ev_f1 : (evc 400 166 0 (entL 166 [.ref 999]) [] [] 0 0 0).1 = 28 := by decide +kernel
theorem ev_f2 : (evc 400 166 0 (entL 166 [.ref 999]) [] [] 0 0 0).2.1 = [.ref 999, .ref 0, .ref 134, .ref 178, .ref 179, .int 0, UU, UU, UU] := by decide +kernel
theorem ev_f3 : (evc 400 166 0 (entL 166 [.ref 999]) [] [] 0 0 0).2.2.1 = [] := by decide +kernel
theorem ev_f4 : (evc 400 166 0 (entL 166 [.ref 999]) [] [] 0 0 0).2.2.2.1 = FT := by decide +kernel
theorem ev_f5 : (evc 400 166 0 (entL 166 [.ref 999]) [] [] 0 0 0).2.2.2.2.1 = 180 := by decide +kernel
theorem ev_f6 : (evc 400 166 0 (entL 166 [.ref 999]) [] [] 0 0 0).2.2.2.2.2.1 = 180 := by decide +kernel
theorem ev_f7 : (evc 400 166 0 (entL 166 [.ref 999]) [] [] 0 0 0).2.2.2.2.2.2 = 3772 := by decide +kernel
theorem ev_fin : evc 400 166 0 (entL 166 [.ref 999]) [] [] 0 0 0 = (28, [.ref 999, .ref 0, .ref 134, .ref 178, .ref 179, .int 0, UU, UU, UU], [], FT, 180, 180, 3772) := Prod.ext ev_f1 (Prod.ext ev_f2 (Prod.ext ev_f3 (Prod.ext ev_f4 (Prod.ext ev_f5 (Prod.ext ev_f6 ev_f7)))))
theorem fin_wf1 : ∀ k, k < 180 → ∀ j, j < 60 → sref k j = true → lkp k j FT ≠ 0 := by decide +kernel
theorem fty_len : ∀ c, c ≤ 7 → (ftyL.getD c []).length ≤ 60 := by decide +kernel
theorem kdL_len : kdL.length = 180 := by decide +kernel
theorem getD_far {α : Type} {l : List α} {n : Nat} {d : α} (h : l.length ≤ n) : l.getD n d = d := by
  rw [List.getD_eq_getElem?_getD, List.getElem?_eq_none h]
  rfl
theorem fin_wf {xs : Nat → Int32} : WF (MT (M0 xs) FT) := by
  intro k j h
  have hk : k < 180 := by
    refine Nat.not_le.mp (fun c => ?_)
    have h9 : kd k = 99 := getD_far (by rw [kdL_len]; exact c)
    unfold sref at h
    rw [h9, if_neg (show ¬ (99 : Nat) ≤ 7 by decide)] at h
    exact Bool.noConfusion (show false = true from h)
  have hj : j < 60 := by
    refine Nat.not_le.mp (fun c => ?_)
    unfold sref at h
    split at h
    · rename_i h7
      have h9 : fty (kd k) j = 9 := getD_far (by have := fty_len _ h7; omega)
      rw [h9] at h
      exact absurd h (by decide)
    · rw [Bool.and_eq_true, decide_eq_true_eq] at h
      omega
  rw [MT_lkp (by omega)]
  exact fin_wf1 k hk j hj h
def g0 : Gs := (0, fun _ => 0, fun _ => 0, fun _ => 0, fun _ => 0, fun _ => 0, fun _ _ _ => 0)
def mp0 : Mp := (fun b => if b then 1 else 2, 1, 3, 8, 2)
def r0 : Rs := (fun _ => 0, fun _ => 0, 0, fun _ => 0)
theorem fin_z : ∀ k ∈ [127, 129, 172, 176, 128, 175], ∀ j, j < 64 → lkp k j FT = 0 := by decide +kernel
theorem fin_LVs {xs : Nat → Int32} : LVs (MT (M0 xs) FT) := by
  have m : ∀ {k j : Nat} {v : Int32}, k ≠ 999 → lkp k j FT = v → MT (M0 xs) FT k j = v := fun hk h => (MT_lkp hk FT).trans h
  have hz : ∀ k ∈ [127, 129, 172, 176, 128, 175], ∀ j, j < 64 → MT (M0 xs) FT k j = 0 := fun k hk j hj => m (by rintro rfl; revert hk; decide) (fin_z k hk j hj)
  refine ⟨g0, mp0, false, 0, false, r0, ⟨by decide, fun z hz => absurd hz (Nat.not_lt_zero _)⟩, ⟨⟨by decide, by decide⟩, ⟨by decide, by decide⟩, ⟨by decide, by decide⟩, ⟨by decide, by decide⟩, ⟨by decide, by decide⟩, ⟨by decide, by decide⟩⟩, Nat.zero_le _, ⟨126, 130, .inl rfl, .inr rfl, by decide, m (by decide) (by decide +kernel), m (by decide) (by decide +kernel), ⟨m (by decide) (by decide +kernel), fun z hz => absurd hz (Nat.not_lt_zero _)⟩, ⟨m (by decide) (by decide +kernel), m (by decide) (by decide +kernel), m (by decide) (by decide +kernel), m (by decide) (by decide +kernel), m (by decide) (by decide +kernel), m (by decide) (by decide +kernel)⟩, m (by decide) (by decide +kernel), ⟨m (by decide) (by decide +kernel), fun i h1 h2 => absurd h2 (Nat.not_lt_zero _), fun i h1 => hz 128 (by decide) i (by omega), fun i h1 => hz 129 (by decide) i h1⟩, m (by decide) (by decide +kernel), m (by decide) (by decide +kernel), fun h => absurd h (by decide)⟩, ⟨⟨m (by decide) (by decide +kernel), fun z hz => absurd hz (Nat.not_lt_zero _)⟩, ⟨m (by decide) (by decide +kernel), m (by decide) (by decide +kernel), m (by decide) (by decide +kernel), m (by decide) (by decide +kernel), m (by decide) (by decide +kernel), m (by decide) (by decide +kernel)⟩, m (by decide) (by decide +kernel), ⟨m (by decide) (by decide +kernel), m (by decide) (by decide +kernel), m (by decide) (by decide +kernel), fun i h1 => hz 172 (by decide) i h1, fun i h1 h2 => absurd h2 (Nat.not_lt_zero _), fun i h1 => hz 175 (by decide) i (by omega)⟩, fun h => absurd h (by decide)⟩⟩
theorem the_run : LawRun := by
  intro L xs hL
  have hev := (evc_sound (L := L) (xs := xs) 400 166 0 (entL 166 [.ref 999]) [] [] 0 0 0 (fun e he => absurd he List.not_mem_nil)).2
  rw [ev_fin] at hev
  obtain ⟨o, hR, M', κ', rfl, hc, hu⟩ := law_loop (A := 601024) (B := 7293034) 512 0 (MT (M0 xs) FT) (L, fun _ => 0, true, 180, 180, 3772) ⟨rfl, rfl⟩ fin_LVs hL (by show L ≤ 0 + 7 * 512; omega) (by decide) (by show 180 + 512 ≤ 601024; omega) (by show 3772 + 6 * 512 ≤ 7293034; omega)
  refine ⟨M', κ', hev _ (Run_ready _ _ _ _ _ _ _ fin_wf rfl hR), hc, hu⟩
end P_62_start
