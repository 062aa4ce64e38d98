/-! MODULO: a step of a try; the class makes it -/
section P_32_modulo
variable {Q : Ou → Prop} {M M0 : Mem} {κ : Kp}
def nx (P c : Nat → Int32) : Nat → Option Nat
  | 0 => none
  | k + 1 => if c k = -1 then (match nx P c k with
    | none => some k
    | some b => if P b < P k then some k else some b) else nx P c k
def erl (W : Nat → Nat → Option Int32) (c : Nat → Int32) (k n : Nat) : Int32 := fo (fun i m => ow (W i k) m (fun w => if c i = -1 then m else mx m (c i + w))) 0 n
def tkn (Pt : Nat → Bool) (c : Nat → Int32) (ii : Int32) (k : Nat) (row : Int32) (j : Nat) : Bool := decide (¬ c j = -1) && decide (rm (c j) ii = row) && decide (Pt j = Pt k)
def crw (Pt : Nat → Bool) (c : Nat → Int32) (ii : Int32) (k : Nat) (row : Int32) : Nat → Nat
  | 0 => 0
  | j + 1 => crw Pt c ii k row j + (if tkn Pt c ii k row j = true then 1 else 0)
def wst (P : Nat → Int32) (Pt : Nat → Bool) (c : Nat → Int32) (ii : Int32) (k : Nat) (row : Int32) : Nat → Option Nat
  | 0 => none
  | j + 1 => if tkn Pt c ii k row j = true then (match wst P Pt c ii k row j with
    | none => some j
    | some b => if P b < P j then some b else some j) else wst P Pt c ii k row j
def drF (n : Nat) (P : Nat → Int32) (Pt : Nat → Bool) (c : Nat → Int32) (ii : Int32) (k : Nat) (row : Int32) : Nat → Int32 := match wst P Pt c ii k row n with
  | none => c
  | some b => up c b (-1)
def evb (W : Nat → Nat → Option Int32) (c : Nat → Int32) (k : Nat) (a : Int32) (j : Nat) : Bool := match W k j with
  | none => false
  | some w => decide (¬ j = k) && decide (¬ c j = -1) && decide (c j < a + w)
def evi (n : Nat) (W : Nat → Nat → Option Int32) (c : Nat → Int32) (k : Nat) (a : Int32) : Nat → Int32 := fun j => if j < n ∧ evb W c k a j = true then -1 else c j
/-- the first cycle in whose row a unit is free, from e to e + ii - 1, or e + ii -/
def ffN (n : Nat) (Pt : Nat → Bool) (U : Bool → Nat) (c : Nat → Int32) (ii k e : Nat) : Nat := srN (fun a => decide (crw Pt c (nI ii) k (rm (nI a) (nI ii)) n < U (Pt k))) ii e
def msA (n : Nat) (W : Nat → Nat → Option Int32) (Pt : Nat → Bool) (U : Bool → Nat) (ii : Nat) (c hd : Nat → Int32) (k : Nat) : Int32 := if ffN n Pt U c ii k (erl W c k n).toNatClampNeg < (erl W c k n).toNatClampNeg + ii then nI (ffN n Pt U c ii k (erl W c k n).toNatClampNeg) else if hd k = -1 then erl W c k n else if hd k < erl W c k n then erl W c k n else hd k + 1
def msC (n : Nat) (W : Nat → Nat → Option Int32) (P : Nat → Int32) (Pt : Nat → Bool) (U : Bool → Nat) (ii : Nat) (c hd : Nat → Int32) (k : Nat) : Nat → Int32 := evi n W (up (if ffN n Pt U c ii k (erl W c k n).toNatClampNeg < (erl W c k n).toNatClampNeg + ii then c else drF n P Pt c (nI ii) k (rm (msA n W Pt U ii c hd k) (nI ii))) k (msA n W Pt U ii c hd k)) k (msA n W Pt U ii c hd k)
def mst (n : Nat) (W : Nat → Nat → Option Int32) (P : Nat → Int32) (Pt : Nat → Bool) (U : Bool → Nat) (ii : Nat) (s : (Nat → Int32) × (Nat → Int32)) : (Nat → Int32) × (Nat → Int32) := match nx P s.1 n with
  | none => s
  | some k => (msC n W P Pt U ii s.1 s.2 k, up s.2 k (msA n W Pt U ii s.1 s.2 k))
def mits (n : Nat) (W : Nat → Nat → Option Int32) (P : Nat → Int32) (Pt : Nat → Bool) (U : Bool → Nat) (ii : Nat) : Nat → (Nat → Int32) × (Nat → Int32)
  | 0 => (fun _ => -1, fun _ => -1)
  | m + 1 => mst n W P Pt U ii (mits n W P Pt U ii m)
def cyB (B : Nat) (v : Int32) : Prop := v = -1 ∨ ∃ a : Nat, a ≤ B ∧ v = nI a
theorem cyB_cyc {B : Nat} {v : Int32} (h : cyB B v) (hB : B ≤ 100000) : cyc v := h.imp id (fun ⟨a, h1, h2⟩ => ⟨a, by omega, h2⟩)
theorem cyB_mono {B B' : Nat} {v : Int32} (h : cyB B v) (hB : B ≤ B') : cyB B' v := h.imp id (fun ⟨a, h1, h2⟩ => ⟨a, by omega, h2⟩)
theorem nI_ofI {v : Int32} (h : 0 ≤ v.toInt) : nI v.toNatClampNeg = v := by
  apply Int32.toInt_inj.mp
  have h2 := v.toInt_lt
  have e : (v.toNatClampNeg : Int) = v.toInt := by
    show ((v.toInt.toNat : Nat) : Int) = v.toInt
    omega
  rw [nI_toInt (by omega), e]
theorem clampI {v : Int32} (h : 0 ≤ v.toInt) : (v.toNatClampNeg : Int) = v.toInt := by
  show ((v.toInt.toNat : Nat) : Int) = v.toInt
  omega
section MS
variable {n : Nat} {W : Nat → Nat → Option Int32} {P : Nat → Int32} {Pt : Nat → Bool} {U : Bool → Nat} {ii : Nat} {c hd : Nat → Int32} {k : Nat}
theorem nx_lt : ∀ m b, nx P c m = some b → b < m ∧ c b = -1 := fun m => by
  induction m with
  | zero => intro b h; cases h
  | succ m ih =>
    intro b h
    rw [nx] at h
    by_cases q : c m = -1
    · rw [if_pos q] at h
      cases q2 : nx P c m with
      | none =>
        rw [q2] at h
        cases h
        exact ⟨Nat.lt_succ_self _, q⟩
      | some a =>
        rw [q2] at h
        have ha := ih a q2
        dsimp only at h
        split at h
        · cases h
          exact ⟨Nat.lt_succ_self _, q⟩
        · cases h
          exact ⟨by omega, ha.2⟩
    · rw [if_neg q] at h
      have := ih b h
      exact ⟨by omega, this.2⟩
theorem nx_none : ∀ m, nx P c m = none ↔ ∀ b, b < m → ¬ c b = -1 := fun m => by
  induction m with
  | zero => exact ⟨fun _ b hb => absurd hb (Nat.not_lt_zero b), fun _ => rfl⟩
  | succ m ih =>
    rw [nx]
    by_cases q : c m = -1
    · rw [if_pos q]
      refine ⟨fun h => ?_, fun h => absurd q (h m (Nat.lt_succ_self m))⟩
      cases q2 : nx P c m with
      | none => rw [q2] at h; cases h
      | some a =>
        rw [q2] at h
        dsimp only at h
        split at h <;> cases h
    · rw [if_neg q, ih]
      refine ⟨fun h b hb => ?_, fun h b hb => h b (by omega)⟩
      by_cases e : b = m
      · rw [e]; exact q
      · exact h b (by omega)
theorem wst_lt {row : Int32} {i2 : Int32} : ∀ m b, wst P Pt c i2 k row m = some b → b < m := fun m => by
  induction m with
  | zero => intro b h; cases h
  | succ m ih =>
    intro b h
    rw [wst] at h
    by_cases q : tkn Pt c i2 k row m = true
    · rw [if_pos q] at h
      cases q2 : wst P Pt c i2 k row m with
      | none =>
        rw [q2] at h
        cases h
        exact Nat.lt_succ_self _
      | some a =>
        rw [q2] at h
        have ha := ih a q2
        dsimp only at h
        split at h
        · cases h
          omega
        · cases h
          exact Nat.lt_succ_self _
    · rw [if_neg q] at h
      have := ih b h
      omega
theorem erl_rng {B : Nat} (hr : Wrg n W) (hk : k < n) (hB : B ≤ 100000) (hc : ∀ i, i < n → cyB B (c i)) : 0 ≤ (erl W c k n).toInt ∧ (erl W c k n).toInt ≤ B + 8 := by
  have : ∀ m, m ≤ n → 0 ≤ (fo (fun i m => ow (W i k) m (fun w => if c i = -1 then m else mx m (c i + w))) 0 m).toInt ∧ (fo (fun i m => ow (W i k) m (fun w => if c i = -1 then m else mx m (c i + w))) 0 m).toInt ≤ B + 8 := by
    intro m
    induction m with
    | zero =>
      intro _
      have e : (fo (fun i m => ow (W i k) m (fun w => if c i = -1 then m else mx m (c i + w))) 0 0).toInt = 0 := c0
      omega
    | succ m ih =>
      intro hm
      have ih := ih (by omega)
      have e : fo (fun i m => ow (W i k) m (fun w => if c i = -1 then m else mx m (c i + w))) 0 (m + 1) = ow (W m k) (fo (fun i m => ow (W i k) m (fun w => if c i = -1 then m else mx m (c i + w))) 0 m) (fun w => if c m = -1 then fo (fun i m => ow (W i k) m (fun w => if c i = -1 then m else mx m (c i + w))) 0 m else mx (fo (fun i m => ow (W i k) m (fun w => if c i = -1 then m else mx m (c i + w))) 0 m) (c m + w)) := rfl
      rw [e]
      generalize fo (fun i m => ow (W i k) m (fun w => if c i = -1 then m else mx m (c i + w))) 0 m = z at ih ⊢
      have hw := hr m k (by omega) hk
      cases q : W m k with
      | none => exact ih
      | some w =>
        have hw := hw w q
        show 0 ≤ (if c m = -1 then z else mx z (c m + w)).toInt ∧ (if c m = -1 then z else mx z (c m + w)).toInt ≤ B + 8
        by_cases q2 : c m = -1
        · rw [if_pos q2]
          exact ih
        · rw [if_neg q2, mx_toInt]
          rcases hc m (by omega) with h | ⟨a, h1, h2⟩
          · exact absurd h q2
          · have ta : (c m).toInt = a := by rw [h2, nI_toInt (by omega)]
            rw [l_add (by omega) (by omega), ta]
            omega
  exact this n (Nat.le_refl n)
theorem msA_rng {B : Nat} (hr : Wrg n W) (hk : k < n) (hB : B ≤ 90000) (hii : ii ≤ 80) (hc : ∀ i, i < n → cyB B (c i)) (hh : ∀ i, i < n → cyB B (hd i)) : ∃ a, a ≤ B + 100 ∧ msA n W Pt U ii c hd k = nI a := by
  have he := erl_rng hr hk (by omega) hc
  have hcl := clampI he.1
  have hff := srN_ge (fun a => decide (crw Pt c (nI ii) k (rm (nI a) (nI ii)) n < U (Pt k))) ii (erl W c k n).toNatClampNeg
  unfold msA
  by_cases q : ffN n Pt U c ii k (erl W c k n).toNatClampNeg < (erl W c k n).toNatClampNeg + ii
  · rw [if_pos q]
    exact ⟨_, by omega, rfl⟩
  · rw [if_neg q]
    by_cases q2 : hd k = -1
    · rw [if_pos q2]
      exact ⟨(erl W c k n).toNatClampNeg, by omega, (nI_ofI he.1).symm⟩
    · rw [if_neg q2]
      by_cases q3 : hd k < erl W c k n
      · rw [if_pos q3]
        exact ⟨(erl W c k n).toNatClampNeg, by omega, (nI_ofI he.1).symm⟩
      · rw [if_neg q3]
        rcases hh k hk with h | ⟨a, h1, h2⟩
        · exact absurd h q2
        · exact ⟨a + 1, by omega, by rw [h2, nI_succ]⟩
theorem drF_rng {B : Nat} {i2 row : Int32} (hc : ∀ i, i < n → cyB B (c i)) : ∀ i, i < n → cyB B (drF n P Pt c i2 k row i) := by
  intro i hi
  unfold drF
  cases wst P Pt c i2 k row n with
  | none => exact hc i hi
  | some b =>
    show cyB B (up c b (-1) i)
    by_cases e : i = b
    · rw [e, up_s]
      exact .inl rfl
    · rw [up_o e]
      exact hc i hi
theorem evi_rng {B : Nat} {a : Int32} (hc : ∀ i, i < n → cyB B (c i)) : ∀ i, i < n → cyB B (evi n W c k a i) := by
  intro i hi
  unfold evi
  by_cases q : i < n ∧ evb W c k a i = true
  · rw [if_pos q]
    exact .inl rfl
  · rw [if_neg q]
    exact hc i hi
theorem msC_rng {B : Nat} (hr : Wrg n W) (hk : k < n) (hB : B ≤ 90000) (hii : ii ≤ 80) (hc : ∀ i, i < n → cyB B (c i)) (hh : ∀ i, i < n → cyB B (hd i)) : ∀ i, i < n → cyB (B + 100) (msC n W P Pt U ii c hd k i) := by
  have hA := msA_rng (Pt := Pt) (U := U) hr hk hB hii hc hh
  refine evi_rng (fun i hi => ?_)
  by_cases e : i = k
  · rw [e, up_s]
    exact .inr hA
  · rw [up_o e]
    by_cases q : ffN n Pt U c ii k (erl W c k n).toNatClampNeg < (erl W c k n).toNatClampNeg + ii
    · rw [if_pos q]
      exact cyB_mono (hc i hi) (by omega)
    · rw [if_neg q]
      exact cyB_mono (drF_rng hc i hi) (by omega)
theorem mits_rng (hr : Wrg n W) (hii : ii ≤ 80) : ∀ m, m ≤ 100 → (∀ i, i < n → cyB (100 * m) ((mits n W P Pt U ii m).1 i)) ∧ ∀ i, i < n → cyB (100 * m) ((mits n W P Pt U ii m).2 i) := by
  intro m
  induction m with
  | zero => exact fun _ => ⟨fun i _ => .inl rfl, fun i _ => .inl rfl⟩
  | succ m ih =>
    intro hm
    obtain ⟨h1, h2⟩ := ih (by omega)
    rw [mits, mst]
    cases q : nx P (mits n W P Pt U ii m).1 n with
    | none => exact ⟨fun i hi => cyB_mono (h1 i hi) (by omega), fun i hi => cyB_mono (h2 i hi) (by omega)⟩
    | some k =>
      have hk := (nx_lt n k q).1
      refine ⟨fun i hi => cyB_mono (msC_rng hr hk (by omega) hii h1 h2 i hi) (by omega), fun i hi => ?_⟩
      show cyB _ (up _ k _ i)
      by_cases e : i = k
      · rw [e, up_s]
        obtain ⟨a, h3, h4⟩ := msA_rng (Pt := Pt) (U := U) hr hk (by omega) hii h1 h2
        exact .inr ⟨a, by omega, h4⟩
      · rw [up_o e]
        exact cyB_mono (h2 i hi) (by omega)
end MS
theorem nI_inj {a b : Nat} (ha : a ≤ 1000000) (hb : b ≤ 1000000) (h : nI a = nI b) : a = b := (nI_eq (by omega) (by omega)).mp h
theorem i_28_0 : ins 28 0 = some (.iconst 0, 1, 0, 0, 0, 0) := rfl
theorem i_28_1 : ins 28 1 = some (.istore_n 3, 2, 3, 0, 0, 0) := rfl
theorem i_28_2 : ins 28 2 = some (.iconst 0, 3, 0, 0, 0, 0) := rfl
theorem i_28_3 : ins 28 3 = some (.istore 4, 5, 4, 0, 0, 0) := rfl
theorem i_28_5 : ins 28 5 = some (.iload 4, 7, 4, 0, 0, 0) := rfl
theorem i_28_7 : ins 28 7 = some (.aload_n 0, 8, 0, 0, 0, 0) := rfl
theorem i_28_8 : ins 28 8 = some (.getfield 9, 11, 1, 0, 0, 0) := rfl
theorem i_28_11 : ins 28 11 = some (.if_icmp .ge 54, 14, 65, 0, 0, 0) := rfl
theorem i_28_14 : ins 28 14 = some (.aload_n 0, 15, 0, 0, 0, 0) := rfl
theorem i_28_15 : ins 28 15 = some (.getfield 39, 18, 1, 8, 0, 0) := rfl
theorem i_28_18 : ins 28 18 = some (.iload 4, 20, 4, 0, 0, 0) := rfl
theorem i_28_20 : ins 28 20 = some (.iload_n 1, 21, 1, 0, 0, 0) := rfl
theorem i_28_21 : ins 28 21 = some (.invokestatic 74, 24, 15, 1, 2, 0) := rfl
theorem i_28_24 : ins 28 24 = some (.iaload, 25, 0, 0, 0, 0) := rfl
theorem i_28_25 : ins 28 25 = some (.ldc 85, 27, 85, 0, 0, (-1000000)) := rfl
theorem i_28_27 : ins 28 27 = some (.if_icmp .eq 32, 30, 59, 0, 0, 0) := rfl
theorem i_28_30 : ins 28 30 = some (.aload_n 2, 31, 2, 0, 0, 0) := rfl
theorem i_28_31 : ins 28 31 = some (.iload 4, 33, 4, 0, 0, 0) := rfl
theorem i_28_33 : ins 28 33 = some (.iaload, 34, 0, 0, 0, 0) := rfl
theorem i_28_34 : ins 28 34 = some (.iconst (-1), 35, 0, 0, 0, (-1)) := rfl
theorem i_28_35 : ins 28 35 = some (.if_icmp .eq 24, 38, 59, 0, 0, 0) := rfl
theorem i_28_38 : ins 28 38 = some (.iload_n 3, 39, 3, 0, 0, 0) := rfl
theorem i_28_39 : ins 28 39 = some (.aload_n 2, 40, 2, 0, 0, 0) := rfl
theorem i_28_40 : ins 28 40 = some (.iload 4, 42, 4, 0, 0, 0) := rfl
theorem i_28_42 : ins 28 42 = some (.iaload, 43, 0, 0, 0, 0) := rfl
theorem i_28_43 : ins 28 43 = some (.aload_n 0, 44, 0, 0, 0, 0) := rfl
theorem i_28_44 : ins 28 44 = some (.getfield 39, 47, 1, 8, 0, 0) := rfl
theorem i_28_47 : ins 28 47 = some (.iload 4, 49, 4, 0, 0, 0) := rfl
theorem i_28_49 : ins 28 49 = some (.iload_n 1, 50, 1, 0, 0, 0) := rfl
theorem i_28_50 : ins 28 50 = some (.invokestatic 74, 53, 15, 1, 2, 0) := rfl
theorem i_28_53 : ins 28 53 = some (.iaload, 54, 0, 0, 0, 0) := rfl
theorem i_28_54 : ins 28 54 = some (.iadd, 55, 0, 0, 0, 0) := rfl
theorem i_28_55 : ins 28 55 = some (.invokestatic 93, 58, 164, 1, 2, 0) := rfl
theorem i_28_58 : ins 28 58 = some (.istore_n 3, 59, 3, 0, 0, 0) := rfl
theorem i_28_59 : ins 28 59 = some (.iinc 4 1, 62, 4, 0, 0, 1) := rfl
theorem i_28_62 : ins 28 62 = some (.goto (-57), 65, 5, 0, 0, 0) := rfl
theorem i_28_65 : ins 28 65 = some (.iload_n 3, 66, 3, 0, 0, 0) := rfl
theorem i_28_66 : ins 28 66 = some (.ireturn, 67, 0, 0, 0, 0) := rfl
theorem S28_0 {Q : Ou → Prop} {M : Mem} {κ : Kp} (hκ : Rd κ) {n i j v : Nat} (hv : isAr v 10) (hj : j < n) (hi : i ≤ n) (hn : n ≤ 10) (hc : M 113 0 = nI n) 
    (k1 : RT 28 (5, [.ref 113, .int (nI j), .ref v, .int 0, .int (nI 0)], [], M, κ) Q)
    : RT 28 (0, [.ref 113, .int (nI j), .ref v, UU, UU], [], M, κ) Q := by
  refine w_push i_28_0 rfl ?_
  refine w_store (l1 := [.ref 113, .int (nI j), .ref v, .int 0, UU]) i_28_1 rfl (Nat.le_of_ble_eq_true rfl) rfl ?_
  refine w_push i_28_2 rfl ?_
  refine w_store (l1 := [.ref 113, .int (nI j), .ref v, .int 0, .int 0]) i_28_3 rfl (Nat.le_of_ble_eq_true rfl) rfl ?_
  exact (k1)
theorem S28_5 {Q : Ou → Prop} {M : Mem} {κ : Kp} (hκ : Rd κ) {n i j v : Nat} (hv : isAr v 10) (hj : j < n) (hi : i ≤ n) (hn : n ≤ 10) (hc : M 113 0 = nI n) {m : Int32}
    (k1 : i < n → RT 28 (5, [.ref 113, .int (nI j), .ref v, .int (if (M 118 (i * 10 + j)) = (-1000000) then m else (if (M v i) = (-1) then m else (mx m ((M v i) + (M 118 (i * 10 + j)))))), .int (nI (i + 1))], [], M, κ) Q)
    (k2 : ¬ (i < n) → Q (.inl (some (.int m)), M, κ))
    : RT 28 (5, [.ref 113, .int (nI j), .ref v, .int m, .int (nI i)], [], M, κ) Q := by
  refine w_load i_28_5 rfl rfl ?_
  refine w_load i_28_7 rfl rfl ?_
  refine w_getI (v := (nI n)) i_28_8 hκ (⟨rfl, by decide⟩ : isOb 113 1) rfl (hc) ?_
  refine w_if2n (i < n) i_28_11 (cN_ge (a := i) (b := n) (by omega) (by omega)) ?_ ?_
  · intro h1
    refine w_load i_28_14 rfl rfl ?_
    refine w_getR 118 i_28_15 hκ (⟨rfl, by decide⟩ : isOb 113 1) rfl rfl ?_
    refine w_load i_28_18 rfl rfl ?_
    refine w_load i_28_20 rfl rfl ?_
    refine w_callS i_28_21 ⟨by decide, by decide, by decide, rfl, rfl⟩ (av := [.int (nI i), .int (nI j)]) (rest := [.ref 118]) rfl rfl (Nat.le_of_ble_eq_true rfl) (v := some (.int (nI (i * 10 + j)))) (c15N hκ) ?_
    refine w_ialdN (e := (i * 10 + j)) (v := (M 118 (i * 10 + j))) i_28_24 hκ (⟨rfl, rfl, by decide⟩ : isAr 118 100) (by omega) (by decide) (rfl) ?_
    refine w_push i_28_25 rfl ?_
    have K2 : RT 28 (59, [.ref 113, .int (nI j), .ref v, .int (if (M 118 (i * 10 + j)) = (-1000000) then m else (if (M v i) = (-1) then m else (mx m ((M v i) + (M 118 (i * 10 + j)))))), .int (nI i)], [], M, κ) Q := by
      refine w_iincN (n := i) (l1 := [.ref 113, .int (nI j), .ref v, .int (if (M 118 (i * 10 + j)) = (-1000000) then m else (if (M v i) = (-1) then m else (mx m ((M v i) + (M 118 (i * 10 + j)))))), .int (nI (i + 1))]) 1 i_28_59 rfl rfl ?_
      refine w_goto i_28_62 ?_
      exact (k1 h1)
    refine w_if2 ((M 118 (i * 10 + j)) = (-1000000)) i_28_27 cI_eq ?_ ?_
    · intro h3
      exact (by first | exact (K2) | (have K9 := K2; simp only [↓if_pos h3] at K9 ⊢; exact (K9)))
    · intro h4
      refine w_load i_28_30 rfl rfl ?_
      refine w_load i_28_31 rfl rfl ?_
      refine w_ialdN (e := i) (v := (M v i)) i_28_33 hκ hv (by omega) (by decide) (rfl) ?_
      refine w_push i_28_34 rfl ?_
      refine w_if2 ((M v i) = (-1)) i_28_35 cI_eq ?_ ?_
      · intro h5
        exact (by first | exact (K2) | (have K9 := K2; simp only [↓if_neg h4, ↓if_pos h5] at K9 ⊢; exact (K9)))
      · intro h6
        refine w_load i_28_38 rfl rfl ?_
        refine w_load i_28_39 rfl rfl ?_
        refine w_load i_28_40 rfl rfl ?_
        refine w_ialdN (e := i) (v := (M v i)) i_28_42 hκ hv (by omega) (by decide) (rfl) ?_
        refine w_load i_28_43 rfl rfl ?_
        refine w_getR 118 i_28_44 hκ (⟨rfl, by decide⟩ : isOb 113 1) rfl rfl ?_
        refine w_load i_28_47 rfl rfl ?_
        refine w_load i_28_49 rfl rfl ?_
        refine w_callS i_28_50 ⟨by decide, by decide, by decide, rfl, rfl⟩ (av := [.int (nI i), .int (nI j)]) (rest := [.ref 118, .int (M v i), .int m]) rfl rfl (Nat.le_of_ble_eq_true rfl) (v := some (.int (nI (i * 10 + j)))) (c15N hκ) ?_
        refine w_ialdN (e := (i * 10 + j)) (v := (M 118 (i * 10 + j))) i_28_53 hκ (⟨rfl, rfl, by decide⟩ : isAr 118 100) (by omega) (by decide) (rfl) ?_
        refine w_bin (w := ((M v i) + (M 118 (i * 10 + j)))) i_28_54 rfl rfl ?_
        refine w_mmax i_28_55 rfl (by decide) (Nat.le_of_ble_eq_true rfl) ?_
        refine w_store (l1 := [.ref 113, .int (nI j), .ref v, .int (mx m ((M v i) + (M 118 (i * 10 + j)))), .int (nI i)]) i_28_58 rfl (Nat.le_of_ble_eq_true rfl) rfl ?_
        exact (by first | exact (K2) | (have K9 := K2; simp only [↓if_neg h4, ↓if_neg h6] at K9 ⊢; exact (K9)))
  · intro h7
    refine w_load i_28_65 rfl rfl ?_
    exact w_iret i_28_66 (.inl rfl) (k2 h7)
theorem i_44_0 : ins 44 0 = some (.iconst (-1), 1, 0, 0, 0, (-1)) := rfl
theorem i_44_1 : ins 44 1 = some (.istore_n 3, 2, 3, 0, 0, 0) := rfl
theorem i_44_2 : ins 44 2 = some (.iconst 0, 3, 0, 0, 0, 0) := rfl
theorem i_44_3 : ins 44 3 = some (.istore 4, 5, 4, 0, 0, 0) := rfl
theorem i_44_5 : ins 44 5 = some (.iload 4, 7, 4, 0, 0, 0) := rfl
theorem i_44_7 : ins 44 7 = some (.aload_n 1, 8, 1, 0, 0, 0) := rfl
theorem i_44_8 : ins 44 8 = some (.getfield 37, 11, 1, 0, 0, 0) := rfl
theorem i_44_11 : ins 44 11 = some (.if_icmp .ge 44, 14, 55, 0, 0, 0) := rfl
theorem i_44_14 : ins 44 14 = some (.aload_n 2, 15, 2, 0, 0, 0) := rfl
theorem i_44_15 : ins 44 15 = some (.getfield 63, 18, 5, 7, 0, 0) := rfl
theorem i_44_18 : ins 44 18 = some (.iload 4, 20, 4, 0, 0, 0) := rfl
theorem i_44_20 : ins 44 20 = some (.iaload, 21, 0, 0, 0, 0) := rfl
theorem i_44_21 : ins 44 21 = some (.iconst (-1), 22, 0, 0, 0, (-1)) := rfl
theorem i_44_22 : ins 44 22 = some (.if_icmp .ne 27, 25, 49, 0, 0, 0) := rfl
theorem i_44_25 : ins 44 25 = some (.iload_n 3, 26, 3, 0, 0, 0) := rfl
theorem i_44_26 : ins 44 26 = some (.iconst (-1), 27, 0, 0, 0, (-1)) := rfl
theorem i_44_27 : ins 44 27 = some (.if_icmp .eq 19, 30, 46, 0, 0, 0) := rfl
theorem i_44_30 : ins 44 30 = some (.aload_n 0, 31, 0, 0, 0, 0) := rfl
theorem i_44_31 : ins 44 31 = some (.getfield 9, 34, 3, 0, 0, 0) := rfl
theorem i_44_34 : ins 44 34 = some (.iload 4, 36, 4, 0, 0, 0) := rfl
theorem i_44_36 : ins 44 36 = some (.iaload, 37, 0, 0, 0, 0) := rfl
theorem i_44_37 : ins 44 37 = some (.aload_n 0, 38, 0, 0, 0, 0) := rfl
theorem i_44_38 : ins 44 38 = some (.getfield 9, 41, 3, 0, 0, 0) := rfl
theorem i_44_41 : ins 44 41 = some (.iload_n 3, 42, 3, 0, 0, 0) := rfl
theorem i_44_42 : ins 44 42 = some (.iaload, 43, 0, 0, 0, 0) := rfl
theorem i_44_43 : ins 44 43 = some (.if_icmp .le 6, 46, 49, 0, 0, 0) := rfl
theorem i_44_46 : ins 44 46 = some (.iload 4, 48, 4, 0, 0, 0) := rfl
theorem i_44_48 : ins 44 48 = some (.istore_n 3, 49, 3, 0, 0, 0) := rfl
theorem i_44_49 : ins 44 49 = some (.iinc 4 1, 52, 4, 0, 0, 1) := rfl
theorem i_44_52 : ins 44 52 = some (.goto (-47), 55, 5, 0, 0, 0) := rfl
theorem i_44_55 : ins 44 55 = some (.iload_n 3, 56, 3, 0, 0, 0) := rfl
theorem i_44_56 : ins 44 56 = some (.ireturn, 57, 0, 0, 0, 0) := rfl
theorem S44_0 {Q : Ou → Prop} {M : Mem} {κ : Kp} (hκ : Rd κ) {p n k : Nat} (hp : isPl p) (hk : k ≤ n) (hn : n ≤ 10) (hc : M 113 0 = nI n) 
    (k1 : RT 44 (5, [.ref 122, .ref 113, .ref p, .int (-1), .int (nI 0)], [], M, κ) Q)
    : RT 44 (0, [.ref 122, .ref 113, .ref p, UU, UU], [], M, κ) Q := by
  refine w_push i_44_0 rfl ?_
  refine w_store (l1 := [.ref 122, .ref 113, .ref p, .int (-1), UU]) i_44_1 rfl (Nat.le_of_ble_eq_true rfl) rfl ?_
  refine w_push i_44_2 rfl ?_
  refine w_store (l1 := [.ref 122, .ref 113, .ref p, .int (-1), .int 0]) i_44_3 rfl (Nat.le_of_ble_eq_true rfl) rfl ?_
  exact (k1)
theorem S44_5 {Q : Ou → Prop} {M : Mem} {κ : Kp} (hκ : Rd κ) {p n k : Nat} (hp : isPl p) (hk : k ≤ n) (hn : n ≤ 10) (hc : M 113 0 = nI n) {be : Int32}
    (o1 : k < n → (M (p + 3) k) = (-1) → ¬ (be = (-1)) → vp_in be 10)
    (k1 : k < n → RT 44 (5, [.ref 122, .ref 113, .ref p, .int (if (M (p + 3) k) = (-1) then (if be = (-1) then (nI k) else (if (M 123 be.toNatClampNeg) < (M 123 k) then (nI k) else be)) else be), .int (nI (k + 1))], [], M, κ) Q)
    (k2 : ¬ (k < n) → Q (.inl (some (.int be)), M, κ))
    : RT 44 (5, [.ref 122, .ref 113, .ref p, .int be, .int (nI k)], [], M, κ) Q := by
  refine w_load i_44_5 rfl rfl ?_
  refine w_load i_44_7 rfl rfl ?_
  refine w_getI (v := (nI n)) i_44_8 hκ (⟨rfl, by decide⟩ : isOb 113 1) rfl (hc) ?_
  refine w_if2n (k < n) i_44_11 (cN_ge (a := k) (b := n) (by omega) (by omega)) ?_ ?_
  · intro h1
    refine w_load i_44_14 rfl rfl ?_
    refine w_getR (p + 3) i_44_15 hκ (pl_ob hp) rfl rfl ?_
    refine w_load i_44_18 rfl rfl ?_
    refine w_ialdN (e := k) (v := (M (p + 3) k)) i_44_20 hκ (pl_ar hp 3 (by decide)) (by omega) (by decide) (rfl) ?_
    refine w_push i_44_21 rfl ?_
    have K2 : RT 44 (49, [.ref 122, .ref 113, .ref p, .int (if (M (p + 3) k) = (-1) then (if be = (-1) then (nI k) else (if (M 123 be.toNatClampNeg) < (M 123 k) then (nI k) else be)) else be), .int (nI k)], [], M, κ) Q := by
      refine w_iincN (n := k) (l1 := [.ref 122, .ref 113, .ref p, .int (if (M (p + 3) k) = (-1) then (if be = (-1) then (nI k) else (if (M 123 be.toNatClampNeg) < (M 123 k) then (nI k) else be)) else be), .int (nI (k + 1))]) 1 i_44_49 rfl rfl ?_
      refine w_goto i_44_52 ?_
      exact (k1 h1)
    refine w_if2n ((M (p + 3) k) = (-1)) i_44_22 cI_ne ?_ ?_
    · intro h3
      refine w_load i_44_25 rfl rfl ?_
      refine w_push i_44_26 rfl ?_
      refine w_if2 (be = (-1)) i_44_27 cI_eq ?_ ?_
      · intro h4
        refine w_load i_44_46 rfl rfl ?_
        refine w_store (l1 := [.ref 122, .ref 113, .ref p, .int (nI k), .int (nI k)]) i_44_48 rfl (Nat.le_of_ble_eq_true rfl) rfl ?_
        exact (by first | exact (K2) | (have K9 := K2; simp only [↓if_pos h3, ↓if_pos h4] at K9 ⊢; exact (K9)))
      · intro h5
        refine w_load i_44_30 rfl rfl ?_
        refine w_getR 123 i_44_31 hκ (⟨rfl, by decide⟩ : isOb 122 3) rfl rfl ?_
        refine w_load i_44_34 rfl rfl ?_
        refine w_ialdN (e := k) (v := (M 123 k)) i_44_36 hκ (⟨rfl, rfl, by decide⟩ : isAr 123 10) (by omega) (by decide) (rfl) ?_
        refine w_load i_44_37 rfl rfl ?_
        refine w_getR 123 i_44_38 hκ (⟨rfl, by decide⟩ : isOb 122 3) rfl rfl ?_
        refine w_load i_44_41 rfl rfl ?_
        refine w_iald (v := (M 123 be.toNatClampNeg)) i_44_42 hκ (⟨rfl, rfl, by decide⟩ : isAr 123 10) (o1 h1 h3 h5) (rfl) ?_
        refine w_if2n ((M 123 be.toNatClampNeg) < (M 123 k)) i_44_43 cI_le ?_ ?_
        · intro h6
          refine w_load i_44_46 rfl rfl ?_
          refine w_store (l1 := [.ref 122, .ref 113, .ref p, .int (nI k), .int (nI k)]) i_44_48 rfl (Nat.le_of_ble_eq_true rfl) rfl ?_
          exact (by first | exact (K2) | (have K9 := K2; simp only [↓if_pos h3, ↓if_neg h5, ↓if_pos h6] at K9 ⊢; exact (K9)))
        · intro h7
          exact (by first | exact (K2) | (have K9 := K2; simp only [↓if_pos h3, ↓if_neg h5, ↓if_neg h7] at K9 ⊢; exact (K9)))
    · intro h8
      exact (by first | exact (K2) | (have K9 := K2; simp only [↓if_neg h8] at K9 ⊢; exact (K9)))
  · intro h9
    refine w_load i_44_55 rfl rfl ?_
    exact w_iret i_44_56 (.inl rfl) (k2 h9)
theorem i_48_0 : ins 48 0 = some (.aload_n 2, 1, 2, 0, 0, 0) := rfl
theorem i_48_1 : ins 48 1 = some (.getfield 63, 4, 5, 7, 0, 0) := rfl
theorem i_48_4 : ins 48 4 = some (.iload_n 3, 5, 3, 0, 0, 0) := rfl
theorem i_48_5 : ins 48 5 = some (.iaload, 6, 0, 0, 0, 0) := rfl
theorem i_48_6 : ins 48 6 = some (.iconst (-1), 7, 0, 0, 0, (-1)) := rfl
theorem i_48_7 : ins 48 7 = some (.if_icmp .eq 34, 10, 41, 0, 0, 0) := rfl
theorem i_48_10 : ins 48 10 = some (.aload_n 0, 11, 0, 0, 0, 0) := rfl
theorem i_48_11 : ins 48 11 = some (.getfield 18, 14, 3, 2, 0, 0) := rfl
theorem i_48_14 : ins 48 14 = some (.iload_n 3, 15, 3, 0, 0, 0) := rfl
theorem i_48_15 : ins 48 15 = some (.iaload, 16, 0, 0, 0, 0) := rfl
theorem i_48_16 : ins 48 16 = some (.iload 5, 18, 5, 0, 0, 0) := rfl
theorem i_48_18 : ins 48 18 = some (.if_icmp .ne 23, 21, 41, 0, 0, 0) := rfl
theorem i_48_21 : ins 48 21 = some (.aload_n 1, 22, 1, 0, 0, 0) := rfl
theorem i_48_22 : ins 48 22 = some (.getfield 142, 25, 1, 4, 0, 0) := rfl
theorem i_48_25 : ins 48 25 = some (.iload_n 3, 26, 3, 0, 0, 0) := rfl
theorem i_48_26 : ins 48 26 = some (.baload, 27, 0, 0, 0, 0) := rfl
theorem i_48_27 : ins 48 27 = some (.aload_n 1, 28, 1, 0, 0, 0) := rfl
theorem i_48_28 : ins 48 28 = some (.getfield 142, 31, 1, 4, 0, 0) := rfl
theorem i_48_31 : ins 48 31 = some (.iload 4, 33, 4, 0, 0, 0) := rfl
theorem i_48_33 : ins 48 33 = some (.baload, 34, 0, 0, 0, 0) := rfl
theorem i_48_34 : ins 48 34 = some (.if_icmp .ne 7, 37, 41, 0, 0, 0) := rfl
theorem i_48_37 : ins 48 37 = some (.iconst 1, 38, 0, 0, 0, 1) := rfl
theorem i_48_38 : ins 48 38 = some (.goto 4, 41, 42, 0, 0, 0) := rfl
theorem i_48_41 : ins 48 41 = some (.iconst 0, 42, 0, 0, 0, 0) := rfl
theorem i_48_42 : ins 48 42 = some (.ireturn, 43, 0, 0, 0, 0) := rfl
theorem S48_0 {Q : Ou → Prop} {M : Mem} {κ : Kp} (hκ : Rd κ) {p n k j : Nat} (hp : isPl p) (hk : k < n) (hj : j < n) (hn : n ≤ 10) {Pt : Nat → Bool} (hPt : ∀ k, k < n → M 114 k = bI (Pt k)) {row : Int32}
    (k1 : Q (.inl (some (.int (bI (if (M (p + 3) j) = (-1) then false else (if (M 125 j) = row then (if (bI (Pt j)) = (bI (Pt k)) then true else false) else false))))), M, κ))
    : RT 48 (0, [.ref 122, .ref 113, .ref p, .int (nI j), .int (nI k), .int row], [], M, κ) Q := by
  refine w_load i_48_0 rfl rfl ?_
  refine w_getR (p + 3) i_48_1 hκ (pl_ob hp) rfl rfl ?_
  refine w_load i_48_4 rfl rfl ?_
  refine w_ialdN (e := j) (v := (M (p + 3) j)) i_48_5 hκ (pl_ar hp 3 (by decide)) (by omega) (by decide) (rfl) ?_
  refine w_push i_48_6 rfl ?_
  have K1 : RT 48 (42, [.ref 122, .ref 113, .ref p, .int (nI j), .int (nI k), .int row], [.int (bI (if (M (p + 3) j) = (-1) then false else (if (M 125 j) = row then (if (bI (Pt j)) = (bI (Pt k)) then true else false) else false)))], M, κ) Q := by
    exact w_iret i_48_42 (.inr ⟨rfl, isB_bI _⟩) (k1)
  refine w_if2 ((M (p + 3) j) = (-1)) i_48_7 cI_eq ?_ ?_
  · intro h2
    refine w_push i_48_41 rfl ?_
    exact (by first | exact (K1) | (have K9 := K1; simp only [↓if_pos h2] at K9 ⊢; exact (K9)))
  · intro h3
    refine w_load i_48_10 rfl rfl ?_
    refine w_getR 125 i_48_11 hκ (⟨rfl, by decide⟩ : isOb 122 3) rfl rfl ?_
    refine w_load i_48_14 rfl rfl ?_
    refine w_ialdN (e := j) (v := (M 125 j)) i_48_15 hκ (⟨rfl, rfl, by decide⟩ : isAr 125 10) (by omega) (by decide) (rfl) ?_
    refine w_load i_48_16 rfl rfl ?_
    refine w_if2n ((M 125 j) = row) i_48_18 cI_ne ?_ ?_
    · intro h4
      refine w_load i_48_21 rfl rfl ?_
      refine w_getR 114 i_48_22 hκ (⟨rfl, by decide⟩ : isOb 113 1) rfl rfl ?_
      refine w_load i_48_25 rfl rfl ?_
      refine w_zaldN (e := j) (v := (bI (Pt j))) i_48_26 hκ (⟨rfl, rfl, by decide⟩ : isZr 114 10) (by omega) (by decide) (hPt j (by omega)) ?_
      refine w_load i_48_27 rfl rfl ?_
      refine w_getR 114 i_48_28 hκ (⟨rfl, by decide⟩ : isOb 113 1) rfl rfl ?_
      refine w_load i_48_31 rfl rfl ?_
      refine w_zaldN (e := k) (v := (bI (Pt k))) i_48_33 hκ (⟨rfl, rfl, by decide⟩ : isZr 114 10) (by omega) (by decide) (hPt k (by omega)) ?_
      refine w_if2n ((bI (Pt j)) = (bI (Pt k))) i_48_34 cI_ne ?_ ?_
      · intro h5
        refine w_push i_48_37 rfl ?_
        refine w_goto i_48_38 ?_
        exact (by first | exact (K1) | (have K9 := K1; simp only [↓if_neg h3, ↓if_pos h4, ↓if_pos h5] at K9 ⊢; exact (K9)))
      · intro h6
        refine w_push i_48_41 rfl ?_
        exact (by first | exact (K1) | (have K9 := K1; simp only [↓if_neg h3, ↓if_pos h4, ↓if_neg h6] at K9 ⊢; exact (K9)))
    · intro h7
      refine w_push i_48_41 rfl ?_
      exact (by first | exact (K1) | (have K9 := K1; simp only [↓if_neg h3, ↓if_neg h7] at K9 ⊢; exact (K9)))
theorem i_47_0 : ins 47 0 = some (.iconst (-1), 1, 0, 0, 0, (-1)) := rfl
theorem i_47_1 : ins 47 1 = some (.istore 5, 3, 5, 0, 0, 0) := rfl
theorem i_47_3 : ins 47 3 = some (.iconst 0, 4, 0, 0, 0, 0) := rfl
theorem i_47_4 : ins 47 4 = some (.istore 6, 6, 6, 0, 0, 0) := rfl
theorem i_47_6 : ins 47 6 = some (.iload 6, 8, 6, 0, 0, 0) := rfl
theorem i_47_8 : ins 47 8 = some (.aload_n 1, 9, 1, 0, 0, 0) := rfl
theorem i_47_9 : ins 47 9 = some (.getfield 37, 12, 1, 0, 0, 0) := rfl
theorem i_47_12 : ins 47 12 = some (.if_icmp .ge 50, 15, 62, 0, 0, 0) := rfl
theorem i_47_15 : ins 47 15 = some (.aload_n 0, 16, 0, 0, 0, 0) := rfl
theorem i_47_16 : ins 47 16 = some (.aload_n 1, 17, 1, 0, 0, 0) := rfl
theorem i_47_17 : ins 47 17 = some (.aload_n 2, 18, 2, 0, 0, 0) := rfl
theorem i_47_18 : ins 47 18 = some (.iload 6, 20, 6, 0, 0, 0) := rfl
theorem i_47_20 : ins 47 20 = some (.iload_n 3, 21, 3, 0, 0, 0) := rfl
theorem i_47_21 : ins 47 21 = some (.iload 4, 23, 4, 0, 0, 0) := rfl
theorem i_47_23 : ins 47 23 = some (.invokevirtual 134, 26, 48, 0, 6, 0) := rfl
theorem i_47_26 : ins 47 26 = some (.ifCond .eq 30, 29, 56, 0, 0, 0) := rfl
theorem i_47_29 : ins 47 29 = some (.iload 5, 31, 5, 0, 0, 0) := rfl
theorem i_47_31 : ins 47 31 = some (.iconst (-1), 32, 0, 0, 0, (-1)) := rfl
theorem i_47_32 : ins 47 32 = some (.if_icmp .eq 20, 35, 52, 0, 0, 0) := rfl
theorem i_47_35 : ins 47 35 = some (.aload_n 0, 36, 0, 0, 0, 0) := rfl
theorem i_47_36 : ins 47 36 = some (.getfield 9, 39, 3, 0, 0, 0) := rfl
theorem i_47_39 : ins 47 39 = some (.iload 6, 41, 6, 0, 0, 0) := rfl
theorem i_47_41 : ins 47 41 = some (.iaload, 42, 0, 0, 0, 0) := rfl
theorem i_47_42 : ins 47 42 = some (.aload_n 0, 43, 0, 0, 0, 0) := rfl
theorem i_47_43 : ins 47 43 = some (.getfield 9, 46, 3, 0, 0, 0) := rfl
theorem i_47_46 : ins 47 46 = some (.iload 5, 48, 5, 0, 0, 0) := rfl
theorem i_47_48 : ins 47 48 = some (.iaload, 49, 0, 0, 0, 0) := rfl
theorem i_47_49 : ins 47 49 = some (.if_icmp .gt 7, 52, 56, 0, 0, 0) := rfl
theorem i_47_52 : ins 47 52 = some (.iload 6, 54, 6, 0, 0, 0) := rfl
theorem i_47_54 : ins 47 54 = some (.istore 5, 56, 5, 0, 0, 0) := rfl
theorem i_47_56 : ins 47 56 = some (.iinc 6 1, 59, 6, 0, 0, 1) := rfl
theorem i_47_59 : ins 47 59 = some (.goto (-53), 62, 6, 0, 0, 0) := rfl
theorem i_47_62 : ins 47 62 = some (.iload 5, 64, 5, 0, 0, 0) := rfl
theorem i_47_64 : ins 47 64 = some (.iconst (-1), 65, 0, 0, 0, (-1)) := rfl
theorem i_47_65 : ins 47 65 = some (.if_icmp .eq 11, 68, 76, 0, 0, 0) := rfl
theorem i_47_68 : ins 47 68 = some (.aload_n 2, 69, 2, 0, 0, 0) := rfl
theorem i_47_69 : ins 47 69 = some (.getfield 63, 72, 5, 7, 0, 0) := rfl
theorem i_47_72 : ins 47 72 = some (.iload 5, 74, 5, 0, 0, 0) := rfl
theorem i_47_74 : ins 47 74 = some (.iconst (-1), 75, 0, 0, 0, (-1)) := rfl
theorem i_47_75 : ins 47 75 = some (.iastore, 76, 0, 0, 0, 0) := rfl
theorem i_47_76 : ins 47 76 = some (.return_, 77, 0, 0, 0, 0) := rfl
theorem S47_0 {Q : Ou → Prop} {M : Mem} {κ : Kp} (hκ : Rd κ) {p n k j : Nat} (hp : isPl p) (hk : k < n) (hj : j ≤ n) (hn : n ≤ 10) (hc : M 113 0 = nI n) {row : Int32}
    (k1 : RT 47 (6, [.ref 122, .ref 113, .ref p, .int (nI k), .int row, .int (-1), .int (nI 0)], [], M, κ) Q)
    : RT 47 (0, [.ref 122, .ref 113, .ref p, .int (nI k), .int row, UU, UU], [], M, κ) Q := by
  refine w_push i_47_0 rfl ?_
  refine w_store (l1 := [.ref 122, .ref 113, .ref p, .int (nI k), .int row, .int (-1), UU]) i_47_1 rfl (Nat.le_of_ble_eq_true rfl) rfl ?_
  refine w_push i_47_3 rfl ?_
  refine w_store (l1 := [.ref 122, .ref 113, .ref p, .int (nI k), .int row, .int (-1), .int 0]) i_47_4 rfl (Nat.le_of_ble_eq_true rfl) rfl ?_
  exact (k1)
theorem S47_6 {Q : Ou → Prop} {M : Mem} {κ : Kp} (hκ : Rd κ) {p n k j : Nat} (hp : isPl p) (hk : k < n) (hj : j ≤ n) (hn : n ≤ 10) (hc : M 113 0 = nI n) {row : Int32} {le : Int32} {r_23 : Bool}
    (o1 : j < n → Run 48 (0, entL 48 [.ref 122, .ref 113, .ref p, .int (nI j), .int (nI k), .int row], [], M, κ) (.inl (some (.int (bI r_23))), M, κ))
    (o2 : j < n → r_23 = true → ¬ (le = (-1)) → vp_in le 10)
    (o3 : ¬ (j < n) → ¬ (le = (-1)) → vp_in le 10)
    (k1 : j < n → RT 47 (6, [.ref 122, .ref 113, .ref p, .int (nI k), .int row, .int (if r_23 = true then (if le = (-1) then (nI j) else (if (M 123 le.toNatClampNeg) < (M 123 j) then le else (nI j))) else le), .int (nI (j + 1))], [], M, κ) Q)
    (k2 : ¬ (j < n) → Q (.inl none, (if le = (-1) then M else (stM M (p + 3) le.toNatClampNeg (-1))), κ))
    : RT 47 (6, [.ref 122, .ref 113, .ref p, .int (nI k), .int row, .int le, .int (nI j)], [], M, κ) Q := by
  refine w_load i_47_6 rfl rfl ?_
  refine w_load i_47_8 rfl rfl ?_
  refine w_getI (v := (nI n)) i_47_9 hκ (⟨rfl, by decide⟩ : isOb 113 1) rfl (hc) ?_
  refine w_if2n (j < n) i_47_12 (cN_ge (a := j) (b := n) (by omega) (by omega)) ?_ ?_
  · intro h1
    refine w_load i_47_15 rfl rfl ?_
    refine w_load i_47_16 rfl rfl ?_
    refine w_load i_47_17 rfl rfl ?_
    refine w_load i_47_18 rfl rfl ?_
    refine w_load i_47_20 rfl rfl ?_
    refine w_load i_47_21 rfl rfl ?_
    refine w_callV (i := _) i_47_23 ⟨by decide, by decide, by decide, rfl⟩ hκ (⟨rfl, by decide⟩ : isOb 122 3) (av := [.ref 113, .ref p, .int (nI j), .int (nI k), .int row]) (rest := []) rfl rfl (Nat.le_of_ble_eq_true rfl) (v := some (.int (bI r_23))) (o1 h1) ?_
    have K2 : RT 47 (56, [.ref 122, .ref 113, .ref p, .int (nI k), .int row, .int (if r_23 = true then (if le = (-1) then (nI j) else (if (M 123 le.toNatClampNeg) < (M 123 j) then le else (nI j))) else le), .int (nI j)], [], M, κ) Q := by
      refine w_iincN (n := j) (l1 := [.ref 122, .ref 113, .ref p, .int (nI k), .int row, .int (if r_23 = true then (if le = (-1) then (nI j) else (if (M 123 le.toNatClampNeg) < (M 123 j) then le else (nI j))) else le), .int (nI (j + 1))]) 1 i_47_56 rfl rfl ?_
      refine w_goto i_47_59 ?_
      exact (k1 h1)
    refine w_if0n (r_23 = true) i_47_26 cB_eq ?_ ?_
    · intro h3
      refine w_load i_47_29 rfl rfl ?_
      refine w_push i_47_31 rfl ?_
      refine w_if2 (le = (-1)) i_47_32 cI_eq ?_ ?_
      · intro h4
        refine w_load i_47_52 rfl rfl ?_
        refine w_store (l1 := [.ref 122, .ref 113, .ref p, .int (nI k), .int row, .int (nI j), .int (nI j)]) i_47_54 rfl (Nat.le_of_ble_eq_true rfl) rfl ?_
        exact (by first | exact (K2) | (have K9 := K2; simp only [↓if_pos h3, ↓if_pos h4] at K9 ⊢; exact (K9)))
      · intro h5
        refine w_load i_47_35 rfl rfl ?_
        refine w_getR 123 i_47_36 hκ (⟨rfl, by decide⟩ : isOb 122 3) rfl rfl ?_
        refine w_load i_47_39 rfl rfl ?_
        refine w_ialdN (e := j) (v := (M 123 j)) i_47_41 hκ (⟨rfl, rfl, by decide⟩ : isAr 123 10) (by omega) (by decide) (rfl) ?_
        refine w_load i_47_42 rfl rfl ?_
        refine w_getR 123 i_47_43 hκ (⟨rfl, by decide⟩ : isOb 122 3) rfl rfl ?_
        refine w_load i_47_46 rfl rfl ?_
        refine w_iald (v := (M 123 le.toNatClampNeg)) i_47_48 hκ (⟨rfl, rfl, by decide⟩ : isAr 123 10) (o2 h1 h3 h5) (rfl) ?_
        refine w_if2 ((M 123 le.toNatClampNeg) < (M 123 j)) i_47_49 cI_gt ?_ ?_
        · intro h6
          exact (by first | exact (K2) | (have K9 := K2; simp only [↓if_pos h3, ↓if_neg h5, ↓if_pos h6] at K9 ⊢; exact (K9)))
        · intro h7
          refine w_load i_47_52 rfl rfl ?_
          refine w_store (l1 := [.ref 122, .ref 113, .ref p, .int (nI k), .int row, .int (nI j), .int (nI j)]) i_47_54 rfl (Nat.le_of_ble_eq_true rfl) rfl ?_
          exact (by first | exact (K2) | (have K9 := K2; simp only [↓if_pos h3, ↓if_neg h5, ↓if_neg h7] at K9 ⊢; exact (K9)))
    · intro h8
      exact (by first | exact (K2) | (have K9 := K2; simp only [↓if_neg h8] at K9 ⊢; exact (K9)))
  · intro h9
    refine w_load i_47_62 rfl rfl ?_
    refine w_push i_47_64 rfl ?_
    have K10 : RT 47 (76, [.ref 122, .ref 113, .ref p, .int (nI k), .int row, .int le, .int (nI j)], [], (if le = (-1) then M else (stM M (p + 3) le.toNatClampNeg (-1))), κ) Q := by
      exact w_vret i_47_76 rfl (k2 h9)
    refine w_if2 (le = (-1)) i_47_65 cI_eq ?_ ?_
    · intro h11
      exact (by first | exact (K10) | (have K9 := K10; simp only [↓if_pos h11] at K9 ⊢; exact (K9)))
    · intro h12
      refine w_load i_47_68 rfl rfl ?_
      refine w_getR (p + 3) i_47_69 hκ (pl_ob hp) rfl rfl ?_
      refine w_load i_47_72 rfl rfl ?_
      refine w_push i_47_74 rfl ?_
      refine w_iast i_47_75 hκ (pl_ar hp 3 (by decide)) (o3 h9 h12) ?_
      exact (by first | exact (K10) | (have K9 := K10; simp only [↓if_neg h12] at K9 ⊢; exact (K9)))
theorem i_46_0 : ins 46 0 = some (.iload 4, 2, 4, 0, 0, 0) := rfl
theorem i_46_2 : ins 46 2 = some (.istore 6, 4, 6, 0, 0, 0) := rfl
theorem i_46_4 : ins 46 4 = some (.iload 6, 6, 6, 0, 0, 0) := rfl
theorem i_46_6 : ins 46 6 = some (.iload 4, 8, 4, 0, 0, 0) := rfl
theorem i_46_8 : ins 46 8 = some (.iload 5, 10, 5, 0, 0, 0) := rfl
theorem i_46_10 : ins 46 10 = some (.iadd, 11, 0, 0, 0, 0) := rfl
theorem i_46_11 : ins 46 11 = some (.if_icmp .ge 76, 14, 87, 0, 0, 0) := rfl
theorem i_46_14 : ins 46 14 = some (.iload 6, 16, 6, 0, 0, 0) := rfl
theorem i_46_16 : ins 46 16 = some (.iload 5, 18, 5, 0, 0, 0) := rfl
theorem i_46_18 : ins 46 18 = some (.invokestatic 121, 21, 63, 1, 2, 0) := rfl
theorem i_46_21 : ins 46 21 = some (.istore 7, 23, 7, 0, 0, 0) := rfl
theorem i_46_23 : ins 46 23 = some (.iconst 0, 24, 0, 0, 0, 0) := rfl
theorem i_46_24 : ins 46 24 = some (.istore 8, 26, 8, 0, 0, 0) := rfl
theorem i_46_26 : ins 46 26 = some (.iconst 0, 27, 0, 0, 0, 0) := rfl
theorem i_46_27 : ins 46 27 = some (.istore 9, 29, 9, 0, 0, 0) := rfl
theorem i_46_29 : ins 46 29 = some (.iload 9, 31, 9, 0, 0, 0) := rfl
theorem i_46_31 : ins 46 31 = some (.aload_n 1, 32, 1, 0, 0, 0) := rfl
theorem i_46_32 : ins 46 32 = some (.getfield 37, 35, 1, 0, 0, 0) := rfl
theorem i_46_35 : ins 46 35 = some (.if_icmp .ge 33, 38, 68, 0, 0, 0) := rfl
theorem i_46_38 : ins 46 38 = some (.iload 8, 40, 8, 0, 0, 0) := rfl
theorem i_46_40 : ins 46 40 = some (.aload_n 0, 41, 0, 0, 0, 0) := rfl
theorem i_46_41 : ins 46 41 = some (.aload_n 1, 42, 1, 0, 0, 0) := rfl
theorem i_46_42 : ins 46 42 = some (.aload_n 2, 43, 2, 0, 0, 0) := rfl
theorem i_46_43 : ins 46 43 = some (.iload 9, 45, 9, 0, 0, 0) := rfl
theorem i_46_45 : ins 46 45 = some (.iload_n 3, 46, 3, 0, 0, 0) := rfl
theorem i_46_46 : ins 46 46 = some (.iload 7, 48, 7, 0, 0, 0) := rfl
theorem i_46_48 : ins 46 48 = some (.invokevirtual 134, 51, 48, 0, 6, 0) := rfl
theorem i_46_51 : ins 46 51 = some (.ifCond .eq 7, 54, 58, 0, 0, 0) := rfl
theorem i_46_54 : ins 46 54 = some (.iconst 1, 55, 0, 0, 0, 1) := rfl
theorem i_46_55 : ins 46 55 = some (.goto 4, 58, 59, 0, 0, 0) := rfl
theorem i_46_58 : ins 46 58 = some (.iconst 0, 59, 0, 0, 0, 0) := rfl
theorem i_46_59 : ins 46 59 = some (.iadd, 60, 0, 0, 0, 0) := rfl
theorem i_46_60 : ins 46 60 = some (.istore 8, 62, 8, 0, 0, 0) := rfl
theorem i_46_62 : ins 46 62 = some (.iinc 9 1, 65, 9, 0, 0, 1) := rfl
theorem i_46_65 : ins 46 65 = some (.goto (-36), 68, 29, 0, 0, 0) := rfl
theorem i_46_68 : ins 46 68 = some (.iload 8, 70, 8, 0, 0, 0) := rfl
theorem i_46_70 : ins 46 70 = some (.aload_n 1, 71, 1, 0, 0, 0) := rfl
theorem i_46_71 : ins 46 71 = some (.iload_n 3, 72, 3, 0, 0, 0) := rfl
theorem i_46_72 : ins 46 72 = some (.invokevirtual 138, 75, 16, 0, 2, 0) := rfl
theorem i_46_75 : ins 46 75 = some (.if_icmp .ge 6, 78, 81, 0, 0, 0) := rfl
theorem i_46_78 : ins 46 78 = some (.iload 6, 80, 6, 0, 0, 0) := rfl
theorem i_46_80 : ins 46 80 = some (.ireturn, 81, 0, 0, 0, 0) := rfl
theorem i_46_81 : ins 46 81 = some (.iinc 6 1, 84, 6, 0, 0, 1) := rfl
theorem i_46_84 : ins 46 84 = some (.goto (-80), 87, 4, 0, 0, 0) := rfl
theorem i_46_87 : ins 46 87 = some (.iconst (-1), 88, 0, 0, 0, (-1)) := rfl
theorem i_46_88 : ins 46 88 = some (.ireturn, 89, 0, 0, 0, 0) := rfl
theorem S46_0 {Q : Ou → Prop} {M : Mem} {κ : Kp} (hκ : Rd κ) {p n k : Nat} (hp : isPl p) (hk : k < n) (hn : n ≤ 10) (hc : M 113 0 = nI n) {Pt : Nat → Bool} (hPt : ∀ k, k < n → M 114 k = bI (Pt k)) {e : Nat} {ii : Nat} (b_e : e ≤ 100000) (b_ii : ii ≤ 100000)
    (k1 : RT 46 (4, [.ref 122, .ref 113, .ref p, .int (nI k), .int (nI e), .int (nI ii), .int (nI e), UU, UU, UU], [], M, κ) Q)
    : RT 46 (0, [.ref 122, .ref 113, .ref p, .int (nI k), .int (nI e), .int (nI ii), UU, UU, UU, UU], [], M, κ) Q := by
  refine w_load i_46_0 rfl rfl ?_
  refine w_store (l1 := [.ref 122, .ref 113, .ref p, .int (nI k), .int (nI e), .int (nI ii), .int (nI e), UU, UU, UU]) i_46_2 rfl (Nat.le_of_ble_eq_true rfl) rfl ?_
  exact (k1)
theorem S46_4 {Q : Ou → Prop} {M : Mem} {κ : Kp} (hκ : Rd κ) {p n k : Nat} (hp : isPl p) (hk : k < n) (hn : n ≤ 10) (hc : M 113 0 = nI n) {Pt : Nat → Bool} (hPt : ∀ k, k < n → M 114 k = bI (Pt k)) {e : Nat} {ii : Nat} {c : Nat} (b_e : e ≤ 100000) (b_ii : ii ≤ 100000) (b_c : c ≤ 100000)
    (k1 : c < (e + ii) → RT 46 (29, [.ref 122, .ref 113, .ref p, .int (nI k), .int (nI e), .int (nI ii), .int (nI c), .int (rmF (nI c) (nI ii)), .int (nI 0), .int (nI 0)], [], M, κ) Q)
    (k2 : ¬ (c < (e + ii)) → Q (.inl (some (.int (-1))), M, κ))
    : RT 46 (4, [.ref 122, .ref 113, .ref p, .int (nI k), .int (nI e), .int (nI ii), .int (nI c), UU, UU, UU], [], M, κ) Q := by
  refine w_load i_46_4 rfl rfl ?_
  refine w_load i_46_6 rfl rfl ?_
  refine w_load i_46_8 rfl rfl ?_
  refine w_bin (w := (nI (e + ii))) i_46_10 rfl (nI_add e ii) ?_
  refine w_if2n (c < (e + ii)) i_46_11 (cN_ge (a := c) (b := (e + ii)) (by omega) (by omega)) ?_ ?_
  · intro h1
    refine w_load i_46_14 rfl rfl ?_
    refine w_load i_46_16 rfl rfl ?_
    refine w_callS i_46_18 ⟨by decide, by decide, by decide, rfl, rfl⟩ (av := [.int (nI c), .int (nI ii)]) (rest := []) rfl rfl (Nat.le_of_ble_eq_true rfl) (v := some (.int (rmF (nI c) (nI ii)))) (c63 hκ) ?_
    refine w_store (l1 := [.ref 122, .ref 113, .ref p, .int (nI k), .int (nI e), .int (nI ii), .int (nI c), .int (rmF (nI c) (nI ii)), UU, UU]) i_46_21 rfl (Nat.le_of_ble_eq_true rfl) rfl ?_
    refine w_push i_46_23 rfl ?_
    refine w_store (l1 := [.ref 122, .ref 113, .ref p, .int (nI k), .int (nI e), .int (nI ii), .int (nI c), .int (rmF (nI c) (nI ii)), .int 0, UU]) i_46_24 rfl (Nat.le_of_ble_eq_true rfl) rfl ?_
    refine w_push i_46_26 rfl ?_
    refine w_store (l1 := [.ref 122, .ref 113, .ref p, .int (nI k), .int (nI e), .int (nI ii), .int (nI c), .int (rmF (nI c) (nI ii)), .int 0, .int 0]) i_46_27 rfl (Nat.le_of_ble_eq_true rfl) rfl ?_
    exact (k1 h1)
  · intro h2
    refine w_push i_46_87 rfl ?_
    exact w_iret i_46_88 (.inl rfl) (k2 h2)
theorem S46_29 {Q : Ou → Prop} {M : Mem} {κ : Kp} (hκ : Rd κ) {p n k : Nat} (hp : isPl p) (hk : k < n) (hn : n ≤ 10) (hc : M 113 0 = nI n) {Pt : Nat → Bool} (hPt : ∀ k, k < n → M 114 k = bI (Pt k)) {e : Nat} {ii : Nat} {c : Nat} {row : Int32} {tk : Nat} {j : Nat} (b_e : e ≤ 100000) (b_ii : ii ≤ 100000) (b_c : c ≤ 100000) (b_tk : tk ≤ 100000) (b_j : j ≤ 100000) {r_48 : Bool}
    (o1 : j < n → Run 48 (0, entL 48 [.ref 122, .ref 113, .ref p, .int (nI j), .int (nI k), .int row], [], M, κ) (.inl (some (.int (bI r_48))), M, κ))
    (k1 : j < n → RT 46 (29, [.ref 122, .ref 113, .ref p, .int (nI k), .int (nI e), .int (nI ii), .int (nI c), .int row, .int (nI (tk + (if r_48 = true then 1 else 0))), .int (nI (j + 1))], [], M, κ) Q)
    (k2 : ¬ (j < n) → (nI tk) < (if (bI (Pt k)) = 0 then (M 113 2) else (M 113 3)) → Q (.inl (some (.int (nI c))), M, κ))
    (k3 : ¬ (j < n) → ¬ ((nI tk) < (if (bI (Pt k)) = 0 then (M 113 2) else (M 113 3))) → RT 46 (4, [.ref 122, .ref 113, .ref p, .int (nI k), .int (nI e), .int (nI ii), .int (nI (c + 1)), UU, UU, UU], [], M, κ) Q)
    : RT 46 (29, [.ref 122, .ref 113, .ref p, .int (nI k), .int (nI e), .int (nI ii), .int (nI c), .int row, .int (nI tk), .int (nI j)], [], M, κ) Q := by
  refine w_load i_46_29 rfl rfl ?_
  refine w_load i_46_31 rfl rfl ?_
  refine w_getI (v := (nI n)) i_46_32 hκ (⟨rfl, by decide⟩ : isOb 113 1) rfl (hc) ?_
  refine w_if2n (j < n) i_46_35 (cN_ge (a := j) (b := n) (by omega) (by omega)) ?_ ?_
  · intro h1
    refine w_load i_46_38 rfl rfl ?_
    refine w_load i_46_40 rfl rfl ?_
    refine w_load i_46_41 rfl rfl ?_
    refine w_load i_46_42 rfl rfl ?_
    refine w_load i_46_43 rfl rfl ?_
    refine w_load i_46_45 rfl rfl ?_
    refine w_load i_46_46 rfl rfl ?_
    refine w_callV (i := _) i_46_48 ⟨by decide, by decide, by decide, rfl⟩ hκ (⟨rfl, by decide⟩ : isOb 122 3) (av := [.ref 113, .ref p, .int (nI j), .int (nI k), .int row]) (rest := [.int (nI tk)]) rfl rfl (Nat.le_of_ble_eq_true rfl) (v := some (.int (bI r_48))) (o1 h1) ?_
    have K2 : RT 46 (59, [.ref 122, .ref 113, .ref p, .int (nI k), .int (nI e), .int (nI ii), .int (nI c), .int row, .int (nI tk), .int (nI j)], [.int (nI (if r_48 = true then 1 else 0)), .int (nI tk)], M, κ) Q := by
      refine w_bin (w := (nI (tk + (if r_48 = true then 1 else 0)))) i_46_59 rfl (nI_add tk (if r_48 = true then 1 else 0)) ?_
      refine w_store (l1 := [.ref 122, .ref 113, .ref p, .int (nI k), .int (nI e), .int (nI ii), .int (nI c), .int row, .int (nI (tk + (if r_48 = true then 1 else 0))), .int (nI j)]) i_46_60 rfl (Nat.le_of_ble_eq_true rfl) rfl ?_
      refine w_iincN (n := j) (l1 := [.ref 122, .ref 113, .ref p, .int (nI k), .int (nI e), .int (nI ii), .int (nI c), .int row, .int (nI (tk + (if r_48 = true then 1 else 0))), .int (nI (j + 1))]) 1 i_46_62 rfl rfl ?_
      refine w_goto i_46_65 ?_
      exact (k1 h1)
    refine w_if0n (r_48 = true) i_46_51 cB_eq ?_ ?_
    · intro h3
      refine w_push i_46_54 rfl ?_
      refine w_goto i_46_55 ?_
      exact (by first | exact (K2) | (have K9 := K2; simp only [↓if_pos h3] at K9 ⊢; exact (K9)))
    · intro h4
      refine w_push i_46_58 rfl ?_
      exact (by first | exact (K2) | (have K9 := K2; simp only [↓if_neg h4] at K9 ⊢; exact (K9)))
  · intro h5
    refine w_load i_46_68 rfl rfl ?_
    refine w_load i_46_70 rfl rfl ?_
    refine w_load i_46_71 rfl rfl ?_
    refine w_callV (i := _) i_46_72 ⟨by decide, by decide, by decide, rfl⟩ hκ (⟨rfl, by decide⟩ : isOb 113 1) (av := [.int (nI k)]) (rest := [.int (nI tk)]) rfl rfl (Nat.le_of_ble_eq_true rfl) (v := some (.int (if (bI (Pt k)) = 0 then (M 113 2) else (M 113 3)))) (c16 hκ (by omega) (hPt k (by omega)) (rfl) (rfl)) ?_
    refine w_if2n ((nI tk) < (if (bI (Pt k)) = 0 then (M 113 2) else (M 113 3))) i_46_75 cI_ge ?_ ?_
    · intro h6
      refine w_load i_46_78 rfl rfl ?_
      exact w_iret i_46_80 (.inl rfl) (k2 h5 h6)
    · intro h7
      refine w_iincN (n := c) (l1 := [.ref 122, .ref 113, .ref p, .int (nI k), .int (nI e), .int (nI ii), .int (nI (c + 1)), .int row, .int (nI tk), .int (nI j)]) 1 i_46_81 rfl rfl ?_
      refine w_goto i_46_84 ?_
      exact w_weak (lle_s (lle_s (lle_s (lle_s (lle_s (lle_s (lle_s (lle_u (lle_u (lle_u lle_n)))))))))) (k3 h5 h7)
theorem i_45_0 : ins 45 0 = some (.aload_n 1, 1, 1, 0, 0, 0) := rfl
theorem i_45_1 : ins 45 1 = some (.iload_n 3, 2, 3, 0, 0, 0) := rfl
theorem i_45_2 : ins 45 2 = some (.aload_n 2, 3, 2, 0, 0, 0) := rfl
theorem i_45_3 : ins 45 3 = some (.getfield 63, 6, 5, 7, 0, 0) := rfl
theorem i_45_6 : ins 45 6 = some (.invokevirtual 113, 9, 28, 0, 3, 0) := rfl
theorem i_45_9 : ins 45 9 = some (.istore 5, 11, 5, 0, 0, 0) := rfl
theorem i_45_11 : ins 45 11 = some (.aload_n 0, 12, 0, 0, 0, 0) := rfl
theorem i_45_12 : ins 45 12 = some (.aload_n 1, 13, 1, 0, 0, 0) := rfl
theorem i_45_13 : ins 45 13 = some (.aload_n 2, 14, 2, 0, 0, 0) := rfl
theorem i_45_14 : ins 45 14 = some (.iload_n 3, 15, 3, 0, 0, 0) := rfl
theorem i_45_15 : ins 45 15 = some (.iload 5, 17, 5, 0, 0, 0) := rfl
theorem i_45_17 : ins 45 17 = some (.iload 4, 19, 4, 0, 0, 0) := rfl
theorem i_45_19 : ins 45 19 = some (.invokevirtual 117, 22, 46, 0, 6, 0) := rfl
theorem i_45_22 : ins 45 22 = some (.istore 6, 24, 6, 0, 0, 0) := rfl
theorem i_45_24 : ins 45 24 = some (.iload 6, 26, 6, 0, 0, 0) := rfl
theorem i_45_26 : ins 45 26 = some (.iconst (-1), 27, 0, 0, 0, (-1)) := rfl
theorem i_45_27 : ins 45 27 = some (.if_icmp .ne 53, 30, 80, 0, 0, 0) := rfl
theorem i_45_30 : ins 45 30 = some (.aload_n 0, 31, 0, 0, 0, 0) := rfl
theorem i_45_31 : ins 45 31 = some (.getfield 15, 34, 3, 1, 0, 0) := rfl
theorem i_45_34 : ins 45 34 = some (.iload_n 3, 35, 3, 0, 0, 0) := rfl
theorem i_45_35 : ins 45 35 = some (.iaload, 36, 0, 0, 0, 0) := rfl
theorem i_45_36 : ins 45 36 = some (.iconst (-1), 37, 0, 0, 0, (-1)) := rfl
theorem i_45_37 : ins 45 37 = some (.if_icmp .eq 14, 40, 51, 0, 0, 0) := rfl
theorem i_45_40 : ins 45 40 = some (.iload 5, 42, 5, 0, 0, 0) := rfl
theorem i_45_42 : ins 45 42 = some (.aload_n 0, 43, 0, 0, 0, 0) := rfl
theorem i_45_43 : ins 45 43 = some (.getfield 15, 46, 3, 1, 0, 0) := rfl
theorem i_45_46 : ins 45 46 = some (.iload_n 3, 47, 3, 0, 0, 0) := rfl
theorem i_45_47 : ins 45 47 = some (.iaload, 48, 0, 0, 0, 0) := rfl
theorem i_45_48 : ins 45 48 = some (.if_icmp .le 8, 51, 56, 0, 0, 0) := rfl
theorem i_45_51 : ins 45 51 = some (.iload 5, 53, 5, 0, 0, 0) := rfl
theorem i_45_53 : ins 45 53 = some (.goto 11, 56, 64, 0, 0, 0) := rfl
theorem i_45_56 : ins 45 56 = some (.aload_n 0, 57, 0, 0, 0, 0) := rfl
theorem i_45_57 : ins 45 57 = some (.getfield 15, 60, 3, 1, 0, 0) := rfl
theorem i_45_60 : ins 45 60 = some (.iload_n 3, 61, 3, 0, 0, 0) := rfl
theorem i_45_61 : ins 45 61 = some (.iaload, 62, 0, 0, 0, 0) := rfl
theorem i_45_62 : ins 45 62 = some (.iconst 1, 63, 0, 0, 0, 1) := rfl
theorem i_45_63 : ins 45 63 = some (.iadd, 64, 0, 0, 0, 0) := rfl
theorem i_45_64 : ins 45 64 = some (.istore 6, 66, 6, 0, 0, 0) := rfl
theorem i_45_66 : ins 45 66 = some (.aload_n 0, 67, 0, 0, 0, 0) := rfl
theorem i_45_67 : ins 45 67 = some (.aload_n 1, 68, 1, 0, 0, 0) := rfl
theorem i_45_68 : ins 45 68 = some (.aload_n 2, 69, 2, 0, 0, 0) := rfl
theorem i_45_69 : ins 45 69 = some (.iload_n 3, 70, 3, 0, 0, 0) := rfl
theorem i_45_70 : ins 45 70 = some (.iload 6, 72, 6, 0, 0, 0) := rfl
theorem i_45_72 : ins 45 72 = some (.iload 4, 74, 4, 0, 0, 0) := rfl
theorem i_45_74 : ins 45 74 = some (.invokestatic 121, 77, 63, 1, 2, 0) := rfl
theorem i_45_77 : ins 45 77 = some (.invokevirtual 124, 80, 47, 0, 5, 0) := rfl
theorem i_45_80 : ins 45 80 = some (.aload_n 2, 81, 2, 0, 0, 0) := rfl
theorem i_45_81 : ins 45 81 = some (.getfield 63, 84, 5, 7, 0, 0) := rfl
theorem i_45_84 : ins 45 84 = some (.iload_n 3, 85, 3, 0, 0, 0) := rfl
theorem i_45_85 : ins 45 85 = some (.iload 6, 87, 6, 0, 0, 0) := rfl
theorem i_45_87 : ins 45 87 = some (.iastore, 88, 0, 0, 0, 0) := rfl
theorem i_45_88 : ins 45 88 = some (.aload_n 0, 89, 0, 0, 0, 0) := rfl
theorem i_45_89 : ins 45 89 = some (.getfield 15, 92, 3, 1, 0, 0) := rfl
theorem i_45_92 : ins 45 92 = some (.iload_n 3, 93, 3, 0, 0, 0) := rfl
theorem i_45_93 : ins 45 93 = some (.iload 6, 95, 6, 0, 0, 0) := rfl
theorem i_45_95 : ins 45 95 = some (.iastore, 96, 0, 0, 0, 0) := rfl
theorem i_45_96 : ins 45 96 = some (.aload_n 0, 97, 0, 0, 0, 0) := rfl
theorem i_45_97 : ins 45 97 = some (.getfield 18, 100, 3, 2, 0, 0) := rfl
theorem i_45_100 : ins 45 100 = some (.iload_n 3, 101, 3, 0, 0, 0) := rfl
theorem i_45_101 : ins 45 101 = some (.iload 6, 103, 6, 0, 0, 0) := rfl
theorem i_45_103 : ins 45 103 = some (.iload 4, 105, 4, 0, 0, 0) := rfl
theorem i_45_105 : ins 45 105 = some (.invokestatic 121, 108, 63, 1, 2, 0) := rfl
theorem i_45_108 : ins 45 108 = some (.iastore, 109, 0, 0, 0, 0) := rfl
theorem i_45_109 : ins 45 109 = some (.iconst 0, 110, 0, 0, 0, 0) := rfl
theorem i_45_110 : ins 45 110 = some (.istore 7, 112, 7, 0, 0, 0) := rfl
theorem i_45_112 : ins 45 112 = some (.iload 7, 114, 7, 0, 0, 0) := rfl
theorem i_45_114 : ins 45 114 = some (.aload_n 1, 115, 1, 0, 0, 0) := rfl
theorem i_45_115 : ins 45 115 = some (.getfield 37, 118, 1, 0, 0, 0) := rfl
theorem i_45_118 : ins 45 118 = some (.if_icmp .ge 69, 121, 187, 0, 0, 0) := rfl
theorem i_45_121 : ins 45 121 = some (.aload_n 1, 122, 1, 0, 0, 0) := rfl
theorem i_45_122 : ins 45 122 = some (.getfield 127, 125, 1, 8, 0, 0) := rfl
theorem i_45_125 : ins 45 125 = some (.iload_n 3, 126, 3, 0, 0, 0) := rfl
theorem i_45_126 : ins 45 126 = some (.iload 7, 128, 7, 0, 0, 0) := rfl
theorem i_45_128 : ins 45 128 = some (.invokestatic 130, 131, 15, 1, 2, 0) := rfl
theorem i_45_131 : ins 45 131 = some (.iaload, 132, 0, 0, 0, 0) := rfl
theorem i_45_132 : ins 45 132 = some (.istore 8, 134, 8, 0, 0, 0) := rfl
theorem i_45_134 : ins 45 134 = some (.iload 7, 136, 7, 0, 0, 0) := rfl
theorem i_45_136 : ins 45 136 = some (.iload_n 3, 137, 3, 0, 0, 0) := rfl
theorem i_45_137 : ins 45 137 = some (.if_icmp .eq 44, 140, 181, 0, 0, 0) := rfl
theorem i_45_140 : ins 45 140 = some (.iload 8, 142, 8, 0, 0, 0) := rfl
theorem i_45_142 : ins 45 142 = some (.ldc 133, 144, 133, 0, 0, (-1000000)) := rfl
theorem i_45_144 : ins 45 144 = some (.if_icmp .eq 37, 147, 181, 0, 0, 0) := rfl
theorem i_45_147 : ins 45 147 = some (.aload_n 2, 148, 2, 0, 0, 0) := rfl
theorem i_45_148 : ins 45 148 = some (.getfield 63, 151, 5, 7, 0, 0) := rfl
theorem i_45_151 : ins 45 151 = some (.iload 7, 153, 7, 0, 0, 0) := rfl
theorem i_45_153 : ins 45 153 = some (.iaload, 154, 0, 0, 0, 0) := rfl
theorem i_45_154 : ins 45 154 = some (.iconst (-1), 155, 0, 0, 0, (-1)) := rfl
theorem i_45_155 : ins 45 155 = some (.if_icmp .eq 26, 158, 181, 0, 0, 0) := rfl
theorem i_45_158 : ins 45 158 = some (.iload 6, 160, 6, 0, 0, 0) := rfl
theorem i_45_160 : ins 45 160 = some (.iload 8, 162, 8, 0, 0, 0) := rfl
theorem i_45_162 : ins 45 162 = some (.iadd, 163, 0, 0, 0, 0) := rfl
theorem i_45_163 : ins 45 163 = some (.aload_n 2, 164, 2, 0, 0, 0) := rfl
theorem i_45_164 : ins 45 164 = some (.getfield 63, 167, 5, 7, 0, 0) := rfl
theorem i_45_167 : ins 45 167 = some (.iload 7, 169, 7, 0, 0, 0) := rfl
theorem i_45_169 : ins 45 169 = some (.iaload, 170, 0, 0, 0, 0) := rfl
theorem i_45_170 : ins 45 170 = some (.if_icmp .le 11, 173, 181, 0, 0, 0) := rfl
theorem i_45_173 : ins 45 173 = some (.aload_n 2, 174, 2, 0, 0, 0) := rfl
theorem i_45_174 : ins 45 174 = some (.getfield 63, 177, 5, 7, 0, 0) := rfl
theorem i_45_177 : ins 45 177 = some (.iload 7, 179, 7, 0, 0, 0) := rfl
theorem i_45_179 : ins 45 179 = some (.iconst (-1), 180, 0, 0, 0, (-1)) := rfl
theorem i_45_180 : ins 45 180 = some (.iastore, 181, 0, 0, 0, 0) := rfl
theorem i_45_181 : ins 45 181 = some (.iinc 7 1, 184, 7, 0, 0, 1) := rfl
theorem i_45_184 : ins 45 184 = some (.goto (-72), 187, 112, 0, 0, 0) := rfl
theorem i_45_187 : ins 45 187 = some (.return_, 188, 0, 0, 0, 0) := rfl
theorem S45_0 {Q : Ou → Prop} {M : Mem} {κ : Kp} (hκ : Rd κ) {p n k : Nat} (hp : isPl p) (hk : k < n) (hn : n ≤ 10) (hc : M 113 0 = nI n) {ii : Nat} (b_ii : ii ≤ 100000) {r_6 : Nat} {r_19 : Int32}
    (o1 : Run 28 (0, entL 28 [.ref 113, .int (nI k), .ref (p + 3)], [], M, κ) (.inl (some (.int (nI r_6))), M, κ))
    (o2 : Run 46 (0, entL 46 [.ref 122, .ref 113, .ref p, .int (nI k), .int (nI r_6), .int (nI ii)], [], M, κ) (.inl (some (.int r_19)), M, κ))
    (k1 : r_19 = (-1) → RT 47 (0, entL 47 [.ref 122, .ref 113, .ref p, .int (nI k), .int (rmF (if (M 124 k) = (-1) then (nI r_6) else (if (M 124 k) < (nI r_6) then (nI r_6) else ((M 124 k) + 1))) (nI ii))], [], M, κ) (fun o => ∃ v M1 κ1, o = (.inl v, M1, κ1) ∧ RT 45 (80, [.ref 122, .ref 113, .ref p, .int (nI k), .int (nI ii), .int (nI r_6), .int (if (M 124 k) = (-1) then (nI r_6) else (if (M 124 k) < (nI r_6) then (nI r_6) else ((M 124 k) + 1))), UU, UU], v.toList ++ [], M1, κ1) Q))
    (k2 : ¬ (r_19 = (-1)) → RT 45 (112, [UU, .ref 113, .ref p, .int (nI k), UU, UU, .int r_19, .int (nI 0), UU], [], (stM (stM (stM M (p + 3) k r_19) 124 k r_19) 125 k (rmF r_19 (nI ii))), κ) Q)
    : RT 45 (0, [.ref 122, .ref 113, .ref p, .int (nI k), .int (nI ii), UU, UU, UU, UU], [], M, κ) Q := by
  refine w_load i_45_0 rfl rfl ?_
  refine w_load i_45_1 rfl rfl ?_
  refine w_load i_45_2 rfl rfl ?_
  refine w_getR (p + 3) i_45_3 hκ (pl_ob hp) rfl rfl ?_
  refine w_callV (i := _) i_45_6 ⟨by decide, by decide, by decide, rfl⟩ hκ (⟨rfl, by decide⟩ : isOb 113 1) (av := [.int (nI k), .ref (p + 3)]) (rest := []) rfl rfl (Nat.le_of_ble_eq_true rfl) (v := some (.int (nI r_6))) (o1) ?_
  refine w_store (l1 := [.ref 122, .ref 113, .ref p, .int (nI k), .int (nI ii), .int (nI r_6), UU, UU, UU]) i_45_9 rfl (Nat.le_of_ble_eq_true rfl) rfl ?_
  refine w_load i_45_11 rfl rfl ?_
  refine w_load i_45_12 rfl rfl ?_
  refine w_load i_45_13 rfl rfl ?_
  refine w_load i_45_14 rfl rfl ?_
  refine w_load i_45_15 rfl rfl ?_
  refine w_load i_45_17 rfl rfl ?_
  refine w_callV (i := _) i_45_19 ⟨by decide, by decide, by decide, rfl⟩ hκ (⟨rfl, by decide⟩ : isOb 122 3) (av := [.ref 113, .ref p, .int (nI k), .int (nI r_6), .int (nI ii)]) (rest := []) rfl rfl (Nat.le_of_ble_eq_true rfl) (v := some (.int r_19)) (o2) ?_
  refine w_store (l1 := [.ref 122, .ref 113, .ref p, .int (nI k), .int (nI ii), .int (nI r_6), .int r_19, UU, UU]) i_45_22 rfl (Nat.le_of_ble_eq_true rfl) rfl ?_
  refine w_load i_45_24 rfl rfl ?_
  refine w_push i_45_26 rfl ?_
  refine w_if2n (r_19 = (-1)) i_45_27 cI_ne ?_ ?_
  · intro h1
    refine w_load i_45_30 rfl rfl ?_
    refine w_getR 124 i_45_31 hκ (⟨rfl, by decide⟩ : isOb 122 3) rfl rfl ?_
    refine w_load i_45_34 rfl rfl ?_
    refine w_ialdN (e := k) (v := (M 124 k)) i_45_35 hκ (⟨rfl, rfl, by decide⟩ : isAr 124 10) (by omega) (by decide) (rfl) ?_
    refine w_push i_45_36 rfl ?_
    have K2 : RT 45 (64, [.ref 122, .ref 113, .ref p, .int (nI k), .int (nI ii), .int (nI r_6), .int r_19, UU, UU], [.int (if (M 124 k) = (-1) then (nI r_6) else (if (M 124 k) < (nI r_6) then (nI r_6) else ((M 124 k) + 1)))], M, κ) Q := by
      refine w_store (l1 := [.ref 122, .ref 113, .ref p, .int (nI k), .int (nI ii), .int (nI r_6), .int (if (M 124 k) = (-1) then (nI r_6) else (if (M 124 k) < (nI r_6) then (nI r_6) else ((M 124 k) + 1))), UU, UU]) i_45_64 rfl (Nat.le_of_ble_eq_true rfl) rfl ?_
      refine w_load i_45_66 rfl rfl ?_
      refine w_load i_45_67 rfl rfl ?_
      refine w_load i_45_68 rfl rfl ?_
      refine w_load i_45_69 rfl rfl ?_
      refine w_load i_45_70 rfl rfl ?_
      refine w_load i_45_72 rfl rfl ?_
      refine w_callS i_45_74 ⟨by decide, by decide, by decide, rfl, rfl⟩ (av := [.int (if (M 124 k) = (-1) then (nI r_6) else (if (M 124 k) < (nI r_6) then (nI r_6) else ((M 124 k) + 1))), .int (nI ii)]) (rest := [.int (nI k), .ref p, .ref 113, .ref 122]) rfl rfl (Nat.le_of_ble_eq_true rfl) (v := some (.int (rmF (if (M 124 k) = (-1) then (nI r_6) else (if (M 124 k) < (nI r_6) then (nI r_6) else ((M 124 k) + 1))) (nI ii)))) (c63 hκ) ?_
      exact w_callVI (i := _) i_45_77 ⟨by decide, by decide, by decide, rfl⟩ hκ (⟨rfl, by decide⟩ : isOb 122 3) (av := [.ref 113, .ref p, .int (nI k), .int (rmF (if (M 124 k) = (-1) then (nI r_6) else (if (M 124 k) < (nI r_6) then (nI r_6) else ((M 124 k) + 1))) (nI ii))]) (rest := []) rfl rfl (Nat.le_of_ble_eq_true rfl) (k1 h1)
    refine w_if2 ((M 124 k) = (-1)) i_45_37 cI_eq ?_ ?_
    · intro h3
      refine w_load i_45_51 rfl rfl ?_
      refine w_goto i_45_53 ?_
      exact (by first | exact (K2) | (have K9 := K2; simp only [↓if_pos h3] at K9 ⊢; exact (K9)))
    · intro h4
      refine w_load i_45_40 rfl rfl ?_
      refine w_load i_45_42 rfl rfl ?_
      refine w_getR 124 i_45_43 hκ (⟨rfl, by decide⟩ : isOb 122 3) rfl rfl ?_
      refine w_load i_45_46 rfl rfl ?_
      refine w_ialdN (e := k) (v := (M 124 k)) i_45_47 hκ (⟨rfl, rfl, by decide⟩ : isAr 124 10) (by omega) (by decide) (rfl) ?_
      refine w_if2n ((M 124 k) < (nI r_6)) i_45_48 cI_le ?_ ?_
      · intro h5
        refine w_load i_45_51 rfl rfl ?_
        refine w_goto i_45_53 ?_
        exact (by first | exact (K2) | (have K9 := K2; simp only [↓if_neg h4, ↓if_pos h5] at K9 ⊢; exact (K9)))
      · intro h6
        refine w_load i_45_56 rfl rfl ?_
        refine w_getR 124 i_45_57 hκ (⟨rfl, by decide⟩ : isOb 122 3) rfl rfl ?_
        refine w_load i_45_60 rfl rfl ?_
        refine w_ialdN (e := k) (v := (M 124 k)) i_45_61 hκ (⟨rfl, rfl, by decide⟩ : isAr 124 10) (by omega) (by decide) (rfl) ?_
        refine w_push i_45_62 rfl ?_
        refine w_bin (w := ((M 124 k) + 1)) i_45_63 rfl rfl ?_
        exact (by first | exact (K2) | (have K9 := K2; simp only [↓if_neg h4, ↓if_neg h6] at K9 ⊢; exact (K9)))
  · intro h7
    refine w_load i_45_80 rfl rfl ?_
    refine w_getR (p + 3) i_45_81 hκ (pl_ob hp) rfl rfl ?_
    refine w_load i_45_84 rfl rfl ?_
    refine w_load i_45_85 rfl rfl ?_
    refine w_iastN (e := k) i_45_87 hκ (pl_ar hp 3 (by decide)) (by omega) (by decide) ?_
    refine w_load i_45_88 rfl rfl ?_
    refine w_getR 124 i_45_89 hκ (⟨rfl, by decide⟩ : isOb 122 3) rfl rfl ?_
    refine w_load i_45_92 rfl rfl ?_
    refine w_load i_45_93 rfl rfl ?_
    refine w_iastN (e := k) i_45_95 hκ (⟨rfl, rfl, by decide⟩ : isAr 124 10) (by omega) (by decide) ?_
    refine w_load i_45_96 rfl rfl ?_
    refine w_getR 125 i_45_97 hκ (⟨rfl, by decide⟩ : isOb 122 3) rfl rfl ?_
    refine w_load i_45_100 rfl rfl ?_
    refine w_load i_45_101 rfl rfl ?_
    refine w_load i_45_103 rfl rfl ?_
    refine w_callS i_45_105 ⟨by decide, by decide, by decide, rfl, rfl⟩ (av := [.int r_19, .int (nI ii)]) (rest := [.int (nI k), .ref 125]) rfl rfl (Nat.le_of_ble_eq_true rfl) (v := some (.int (rmF r_19 (nI ii)))) (c63 hκ) ?_
    refine w_iastN (e := k) i_45_108 hκ (⟨rfl, rfl, by decide⟩ : isAr 125 10) (by omega) (by decide) ?_
    refine w_push i_45_109 rfl ?_
    refine w_store (l1 := [.ref 122, .ref 113, .ref p, .int (nI k), .int (nI ii), .int (nI r_6), .int r_19, .int 0, UU]) i_45_110 rfl (Nat.le_of_ble_eq_true rfl) rfl ?_
    exact w_weak (lle_u (lle_s (lle_s (lle_s (lle_u (lle_u (lle_s (lle_s (lle_s lle_n))))))))) (k2 h7)
theorem S45_80 {Q : Ou → Prop} {M : Mem} {κ : Kp} (hκ : Rd κ) {p n k : Nat} (hp : isPl p) (hk : k < n) (hn : n ≤ 10) (hc : M 113 0 = nI n) {ii : Nat} {a : Int32} (b_ii : ii ≤ 100000)
    (k1 : RT 45 (112, [UU, .ref 113, .ref p, .int (nI k), UU, UU, .int a, .int (nI 0), UU], [], (stM (stM (stM M (p + 3) k a) 124 k a) 125 k (rmF a (nI ii))), κ) Q)
    : RT 45 (80, [.ref 122, .ref 113, .ref p, .int (nI k), .int (nI ii), UU, .int a, UU, UU], [], M, κ) Q := by
  refine w_load i_45_80 rfl rfl ?_
  refine w_getR (p + 3) i_45_81 hκ (pl_ob hp) rfl rfl ?_
  refine w_load i_45_84 rfl rfl ?_
  refine w_load i_45_85 rfl rfl ?_
  refine w_iastN (e := k) i_45_87 hκ (pl_ar hp 3 (by decide)) (by omega) (by decide) ?_
  refine w_load i_45_88 rfl rfl ?_
  refine w_getR 124 i_45_89 hκ (⟨rfl, by decide⟩ : isOb 122 3) rfl rfl ?_
  refine w_load i_45_92 rfl rfl ?_
  refine w_load i_45_93 rfl rfl ?_
  refine w_iastN (e := k) i_45_95 hκ (⟨rfl, rfl, by decide⟩ : isAr 124 10) (by omega) (by decide) ?_
  refine w_load i_45_96 rfl rfl ?_
  refine w_getR 125 i_45_97 hκ (⟨rfl, by decide⟩ : isOb 122 3) rfl rfl ?_
  refine w_load i_45_100 rfl rfl ?_
  refine w_load i_45_101 rfl rfl ?_
  refine w_load i_45_103 rfl rfl ?_
  refine w_callS i_45_105 ⟨by decide, by decide, by decide, rfl, rfl⟩ (av := [.int a, .int (nI ii)]) (rest := [.int (nI k), .ref 125]) rfl rfl (Nat.le_of_ble_eq_true rfl) (v := some (.int (rmF a (nI ii)))) (c63 hκ) ?_
  refine w_iastN (e := k) i_45_108 hκ (⟨rfl, rfl, by decide⟩ : isAr 125 10) (by omega) (by decide) ?_
  refine w_push i_45_109 rfl ?_
  refine w_store (l1 := [.ref 122, .ref 113, .ref p, .int (nI k), .int (nI ii), UU, .int a, .int 0, UU]) i_45_110 rfl (Nat.le_of_ble_eq_true rfl) rfl ?_
  exact w_weak (lle_u (lle_s (lle_s (lle_s (lle_u (lle_s (lle_s (lle_s (lle_s lle_n))))))))) (k1)
theorem S45_112 {Q : Ou → Prop} {M : Mem} {κ : Kp} (hκ : Rd κ) {p n k : Nat} (hp : isPl p) (hk : k < n) (hn : n ≤ 10) (hc : M 113 0 = nI n) {a : Int32} {j : Nat} (b_j : j ≤ 100000)
    (k1 : j < n → RT 45 (112, [UU, .ref 113, .ref p, .int (nI k), UU, UU, .int a, .int (nI (j + 1)), UU], [], (if j = k then M else (if (M 118 (k * 10 + j)) = (-1000000) then M else (if (M (p + 3) j) = (-1) then M else (if (M (p + 3) j) < (a + (M 118 (k * 10 + j))) then (stM M (p + 3) j (-1)) else M)))), κ) Q)
    (k2 : ¬ (j < n) → Q (.inl none, M, κ))
    : RT 45 (112, [UU, .ref 113, .ref p, .int (nI k), UU, UU, .int a, .int (nI j), UU], [], M, κ) Q := by
  refine w_load i_45_112 rfl rfl ?_
  refine w_load i_45_114 rfl rfl ?_
  refine w_getI (v := (nI n)) i_45_115 hκ (⟨rfl, by decide⟩ : isOb 113 1) rfl (hc) ?_
  refine w_if2n (j < n) i_45_118 (cN_ge (a := j) (b := n) (by omega) (by omega)) ?_ ?_
  · intro h1
    refine w_load i_45_121 rfl rfl ?_
    refine w_getR 118 i_45_122 hκ (⟨rfl, by decide⟩ : isOb 113 1) rfl rfl ?_
    refine w_load i_45_125 rfl rfl ?_
    refine w_load i_45_126 rfl rfl ?_
    refine w_callS i_45_128 ⟨by decide, by decide, by decide, rfl, rfl⟩ (av := [.int (nI k), .int (nI j)]) (rest := [.ref 118]) rfl rfl (Nat.le_of_ble_eq_true rfl) (v := some (.int (nI (k * 10 + j)))) (c15N hκ) ?_
    refine w_ialdN (e := (k * 10 + j)) (v := (M 118 (k * 10 + j))) i_45_131 hκ (⟨rfl, rfl, by decide⟩ : isAr 118 100) (by omega) (by decide) (rfl) ?_
    refine w_store (l1 := [UU, .ref 113, .ref p, .int (nI k), UU, UU, .int a, .int (nI j), .int (M 118 (k * 10 + j))]) i_45_132 rfl (Nat.le_of_ble_eq_true rfl) rfl ?_
    refine w_load i_45_134 rfl rfl ?_
    refine w_load i_45_136 rfl rfl ?_
    have K2 : RT 45 (181, [UU, .ref 113, .ref p, .int (nI k), UU, UU, .int a, .int (nI j), .int (M 118 (k * 10 + j))], [], (if j = k then M else (if (M 118 (k * 10 + j)) = (-1000000) then M else (if (M (p + 3) j) = (-1) then M else (if (M (p + 3) j) < (a + (M 118 (k * 10 + j))) then (stM M (p + 3) j (-1)) else M)))), κ) Q := by
      refine w_iincN (n := j) (l1 := [UU, .ref 113, .ref p, .int (nI k), UU, UU, .int a, .int (nI (j + 1)), .int (M 118 (k * 10 + j))]) 1 i_45_181 rfl rfl ?_
      refine w_goto i_45_184 ?_
      exact w_weak (lle_s (lle_s (lle_s (lle_s (lle_s (lle_s (lle_s (lle_s (lle_u lle_n))))))))) (k1 h1)
    refine w_if2 (j = k) i_45_137 (cN_eq (a := j) (b := k) (by omega) (by omega)) ?_ ?_
    · intro h3
      exact (by first | exact (K2) | (have K9 := K2; simp only [↓if_pos h3] at K9 ⊢; exact (K9)))
    · intro h4
      refine w_load i_45_140 rfl rfl ?_
      refine w_push i_45_142 rfl ?_
      refine w_if2 ((M 118 (k * 10 + j)) = (-1000000)) i_45_144 cI_eq ?_ ?_
      · intro h5
        exact (by first | exact (K2) | (have K9 := K2; simp only [↓if_neg h4, ↓if_pos h5] at K9 ⊢; exact (K9)))
      · intro h6
        refine w_load i_45_147 rfl rfl ?_
        refine w_getR (p + 3) i_45_148 hκ (pl_ob hp) rfl rfl ?_
        refine w_load i_45_151 rfl rfl ?_
        refine w_ialdN (e := j) (v := (M (p + 3) j)) i_45_153 hκ (pl_ar hp 3 (by decide)) (by omega) (by decide) (rfl) ?_
        refine w_push i_45_154 rfl ?_
        refine w_if2 ((M (p + 3) j) = (-1)) i_45_155 cI_eq ?_ ?_
        · intro h7
          exact (by first | exact (K2) | (have K9 := K2; simp only [↓if_neg h4, ↓if_neg h6, ↓if_pos h7] at K9 ⊢; exact (K9)))
        · intro h8
          refine w_load i_45_158 rfl rfl ?_
          refine w_load i_45_160 rfl rfl ?_
          refine w_bin (w := (a + (M 118 (k * 10 + j)))) i_45_162 rfl rfl ?_
          refine w_load i_45_163 rfl rfl ?_
          refine w_getR (p + 3) i_45_164 hκ (pl_ob hp) rfl rfl ?_
          refine w_load i_45_167 rfl rfl ?_
          refine w_ialdN (e := j) (v := (M (p + 3) j)) i_45_169 hκ (pl_ar hp 3 (by decide)) (by omega) (by decide) (rfl) ?_
          refine w_if2n ((M (p + 3) j) < (a + (M 118 (k * 10 + j)))) i_45_170 cI_le ?_ ?_
          · intro h9
            refine w_load i_45_173 rfl rfl ?_
            refine w_getR (p + 3) i_45_174 hκ (pl_ob hp) rfl rfl ?_
            refine w_load i_45_177 rfl rfl ?_
            refine w_push i_45_179 rfl ?_
            refine w_iastN (e := j) i_45_180 hκ (pl_ar hp 3 (by decide)) (by omega) (by decide) ?_
            exact (by first | exact (K2) | (have K9 := K2; simp only [↓if_neg h4, ↓if_neg h6, ↓if_neg h8, ↓if_pos h9] at K9 ⊢; exact (K9)))
          · intro h10
            exact (by first | exact (K2) | (have K9 := K2; simp only [↓if_neg h4, ↓if_neg h6, ↓if_neg h8, ↓if_neg h10] at K9 ⊢; exact (K9)))
  · intro h11
    exact w_vret i_45_187 rfl (k2 h11)
section MC
variable {n p : Nat} {W : Nat → Nat → Option Int32} {P : Nat → Int32} {Pt : Nat → Bool} {U : Bool → Nat} {ii : Nat} {c hd : Nat → Int32} {k : Nat}
theorem c28 (hκ : Rd κ) {v : Nat} (hv : isAr v 10) (hk : k < n) (hn : n ≤ 10) (hc : M 113 0 = nI n) (hW : CW M n W) (hr : Wrg n W) (hcy : ∀ i, i < n → M v i = c i) : Run 28 (0, entL 28 [.ref 113, .int (nI k), .ref v], [], M, κ) (.inl (some (.int (erl W c k n))), M, κ) := by
  refine RT_run (S28_0 (i := 0) hκ hv hk (by omega) hn hc ?_)
  refine loopF (n := n) (fun i m => RT 28 (5, [.ref 113, .int (nI k), .ref v, .int m, .int (nI i)], [], M, κ) _) (fun i m => ow (W i k) m (fun w => if c i = -1 then m else mx m (c i + w))) 0 (fun i m hi K => ?_) ?_
  · refine S28_5 hκ hv hk (by omega) hn hc (fun _ => ?_) (fun z => absurd hi z)
    rw [hW i k hi hk, hcy i hi, enc_ow (Wrg_C hr hi hk) (fun w => if c i = -1 then m else mx m (c i + w))]
    exact K
  · exact S28_5 hκ hv hk (Nat.le_refl _) hn hc (fun z => absurd z (Nat.lt_irrefl _)) (fun _ => rfl)
theorem c44 (hκ : Rd κ) (hp : isPl p) (hn : n ≤ 10) (hc : M 113 0 = nI n) (hcy : ∀ i, i < n → M (p + 3) i = c i) (hP : ∀ i, i < n → M 123 i = P i) : Run 44 (0, entL 44 [.ref 122, .ref 113, .ref p], [], M, κ) (.inl (some (.int (eo (nx P c n)))), M, κ) := by
  refine RT_run (S44_0 (k := 0) hκ hp (by omega) hn hc ?_)
  refine loopI (n := n) (fun k be => RT 44 (5, [.ref 122, .ref 113, .ref p, .int be, .int (nI k)], [], M, κ) _) (fun k be => be = eo (nx P c k)) (fun k be hk hI ih => ?_) (fun be hI => ?_) 0 _ (Nat.zero_le _) rfl
  · refine S44_5 hκ hp (by omega) hn hc (fun _ _ hb => ?_) (fun _ => ih _ ?_) (fun z => absurd hk z)
    · rw [hI] at hb ⊢
      cases q : nx P c k with
      | none => rw [q] at hb; exact absurd rfl hb
      | some b => exact vp_in_nI (by have := (nx_lt k b q).1; omega) (by decide)
    · rw [hI, nx, hcy k hk]
      by_cases h1 : c k = -1
      · rw [if_pos h1, if_pos h1]
        cases q : nx P c k with
        | none => exact if_pos rfl
        | some b =>
          have hb := (nx_lt k b q).1
          show (if nI b = -1 then nI k else if M 123 (nI b).toNatClampNeg < M 123 k then nI k else nI b) = _
          rw [if_neg (nI_m1 (by omega)), nI_clamp (by omega), hP b (by omega), hP k hk]
          dsimp only
          split <;> rfl
      · rw [if_neg h1, if_neg h1]
  · refine S44_5 hκ hp (Nat.le_refl _) hn hc (fun z => absurd z (Nat.lt_irrefl _)) (fun z => absurd z (Nat.lt_irrefl _)) (fun _ => ?_)
    rw [hI]
/-- the rows that the class keeps -/
def LRw (M : Mem) (n : Nat) (ii : Int32) (c : Nat → Int32) : Prop := ∀ k, k < n → ¬ c k = -1 → M 125 k = rm (c k) ii
theorem c48 (hκ : Rd κ) {j : Nat} {i2 row : Int32} (hp : isPl p) (hk : k < n) (hj : j < n) (hn : n ≤ 10) (hPt : ∀ k, k < n → M 114 k = bI (Pt k)) (hcy : ∀ i, i < n → M (p + 3) i = c i) (hR : LRw M n i2 c) : Run 48 (0, entL 48 [.ref 122, .ref 113, .ref p, .int (nI j), .int (nI k), .int row], [], M, κ) (.inl (some (.int (bI (tkn Pt c i2 k row j)))), M, κ) := by
  refine RT_run (S48_0 hκ hp hk hj hn hPt ?_)
  refine oi (congrArg bI ?_)
  rw [hcy j hj, tkn]
  by_cases q : c j = -1
  · rw [if_pos q, decide_eq_false (fun z => z q)]
    rfl
  · rw [if_neg q, hR j hj q, decide_eq_true q, Bool.true_and]
    by_cases q2 : rm (c j) i2 = row
    · rw [if_pos q2, decide_eq_true q2, Bool.true_and]
      by_cases q3 : Pt j = Pt k
      · rw [if_pos (by rw [q3]), decide_eq_true q3]
      · rw [if_neg (fun z => q3 (bI_inj z)), decide_eq_false q3]
    · rw [if_neg q2, decide_eq_false q2]
      rfl
theorem c47 (hκ : Rd κ) {i2 row : Int32} (hp : isPl p) (hk : k < n) (hn : n ≤ 10) (hc : M 113 0 = nI n) (hPt : ∀ k, k < n → M 114 k = bI (Pt k)) (hcy : ∀ i, i < n → M (p + 3) i = c i) (hP : ∀ i, i < n → M 123 i = P i) (hR : LRw M n i2 c) : Run 47 (0, entL 47 [.ref 122, .ref 113, .ref p, .int (nI k), .int row], [], M, κ) (.inl none, (match wst P Pt c i2 k row n with | none => M | some b => stM M (p + 3) b (-1)), κ) := by
  refine RT_run (S47_0 (j := 0) hκ hp hk (by omega) hn hc ?_)
  refine loopI (n := n) (fun j le => RT 47 (6, [.ref 122, .ref 113, .ref p, .int (nI k), .int row, .int le, .int (nI j)], [], M, κ) _) (fun j le => le = eo (wst P Pt c i2 k row j)) (fun j le hj hI ih => ?_) (fun le hI => ?_) 0 _ (Nat.zero_le _) rfl
  · refine S47_6 (r_23 := tkn Pt c i2 k row j) hκ hp hk (by omega) hn hc (fun _ => c48 hκ hp hk hj hn hPt hcy hR) (fun _ _ hb => ?_) (fun z => absurd hj z) (fun _ => ih _ ?_) (fun z => absurd hj z)
    · rw [hI] at hb ⊢
      cases q : wst P Pt c i2 k row j with
      | none => rw [q] at hb; exact absurd rfl hb
      | some b => exact vp_in_nI (by have := wst_lt j b q; omega) (by decide)
    · rw [hI, wst]
      by_cases h1 : tkn Pt c i2 k row j = true
      · rw [if_pos h1, if_pos h1]
        cases q : wst P Pt c i2 k row j with
        | none => exact if_pos rfl
        | some b =>
          have hb := wst_lt j b q
          show (if nI b = -1 then nI j else if M 123 (nI b).toNatClampNeg < M 123 j then nI b else nI j) = _
          rw [if_neg (nI_m1 (by omega)), nI_clamp (by omega), hP b (by omega), hP j hj]
          dsimp only
          split <;> rfl
      · rw [if_neg h1, if_neg h1]
  · refine S47_6 (r_23 := false) hκ hp hk (Nat.le_refl _) hn hc (fun z => absurd z (Nat.lt_irrefl _)) (fun z => absurd z (Nat.lt_irrefl _)) (fun _ hb => ?_) (fun z => absurd z (Nat.lt_irrefl _)) (fun _ => ?_)
    · rw [hI] at hb ⊢
      cases q : wst P Pt c i2 k row n with
      | none => rw [q] at hb; exact absurd rfl hb
      | some b => exact vp_in_nI (by have := wst_lt n b q; omega) (by decide)
    · rw [hI]
      cases q : wst P Pt c i2 k row n with
      | none =>
        show (Sum.inl none, (if (-1 : Int32) = -1 then M else _), κ) = _
        rw [if_pos rfl]
      | some b =>
        have hb := wst_lt n b q
        show (Sum.inl none, (if nI b = -1 then M else stM M (p + 3) (nI b).toNatClampNeg (-1)), κ) = _
        rw [if_neg (nI_m1 (by omega)), nI_clamp (by omega)]
theorem crw_le {i2 row : Int32} : ∀ m, crw Pt c i2 k row m ≤ m := fun m => by
  induction m with
  | zero => exact Nat.le_refl 0
  | succ m ih =>
    rw [crw]
    split <;> omega
theorem c46 (hκ : Rd κ) {e : Nat} (hp : isPl p) (hk : k < n) (hn : n ≤ 10) (he : e ≤ 50000) (hii : ii ≤ 1000) (hi0 : 1 ≤ ii) (hc : M 113 0 = nI n) (hal : M 113 2 = nI (U false)) (hpo : M 113 3 = nI (U true)) (hU : ∀ b, U b ≤ 10) (hPt : ∀ k, k < n → M 114 k = bI (Pt k)) (hcy : ∀ i, i < n → M (p + 3) i = c i) (hR : LRw M n (nI ii) c) : Run 46 (0, entL 46 [.ref 122, .ref 113, .ref p, .int (nI k), .int (nI e), .int (nI ii)], [], M, κ) (.inl (some (.int (if ffN n Pt U c ii k e < e + ii then nI (ffN n Pt U c ii k e) else -1))), M, κ) := by
  refine RT_run (S46_0 hκ hp hk hn hc hPt (by omega) (by omega) ?_)
  have hrm : ∀ v, rmF v (nI ii) = rm v (nI ii) := fun v => if_pos (by rw [ltI, nI_toInt (by omega), c0]; omega)
  have main : ∀ d a, a + d = e + ii → e ≤ a → RT 46 (4, [.ref 122, .ref 113, .ref p, .int (nI k), .int (nI e), .int (nI ii), .int (nI a), UU, UU, UU], [], M, κ) (fun o => o = (.inl (some (.int (if srN (fun a => decide (crw Pt c (nI ii) k (rm (nI a) (nI ii)) n < U (Pt k))) d a < e + ii then nI (srN (fun a => decide (crw Pt c (nI ii) k (rm (nI a) (nI ii)) n < U (Pt k))) d a) else -1))), M, κ)) := by
    intro d
    induction d with
    | zero =>
      intro a ha hea
      refine S46_4 hκ hp hk hn hc hPt (by omega) (by omega) (by omega) (fun z => absurd z (by omega)) (fun _ => ?_)
      rw [srN, if_neg (by omega)]
    | succ d ih =>
      intro a ha hea
      refine S46_4 hκ hp hk hn hc hPt (by omega) (by omega) (by omega) (fun _ => ?_) (fun z => absurd (by omega) z)
      rw [hrm]
      refine loopI (n := n) (fun j tk => RT 46 (29, [.ref 122, .ref 113, .ref p, .int (nI k), .int (nI e), .int (nI ii), .int (nI a), .int (rm (nI a) (nI ii)), .int (nI tk), .int (nI j)], [], M, κ) _) (fun j tk => tk = crw Pt c (nI ii) k (rm (nI a) (nI ii)) j) (fun j tk hj hI ih2 => ?_) (fun tk hI => ?_) 0 0 (Nat.zero_le _) rfl
      · have hl := crw_le (Pt := Pt) (c := c) (k := k) (i2 := nI ii) (row := rm (nI a) (nI ii)) j
        refine S46_29 (r_48 := tkn Pt c (nI ii) k (rm (nI a) (nI ii)) j) hκ hp hk hn hc hPt (by omega) (by omega) (by omega) (by omega) (by omega) (fun _ => c48 hκ hp hk hj hn hPt hcy hR) (fun _ => ih2 _ ?_) (fun z => absurd hj z) (fun z => absurd hj z)
        rw [hI, crw]
      · have hl := crw_le (Pt := Pt) (c := c) (k := k) (i2 := nI ii) (row := rm (nI a) (nI ii)) n
        have hun : ∀ m : Nat, m ≤ 10 → ((nI m < (if bI (Pt k) = 0 then M 113 2 else M 113 3)) ↔ m < U (Pt k)) := by
          intro m hm
          have u1 := hU true
          have u2 := hU false
          rw [hal, hpo]
          cases Pt k with
          | true => exact nI_ltI (by omega) (by omega)
          | false => exact nI_ltI (by omega) (by omega)
        refine S46_29 (r_48 := false) hκ hp hk hn hc hPt (by omega) (by omega) (by omega) (by omega) (by omega) (fun z => absurd z (Nat.lt_irrefl _)) (fun z => absurd z (Nat.lt_irrefl _)) (fun _ h => ?_) (fun _ h => ?_)
        · rw [hI, hun _ (by omega)] at h
          rw [srN, if_pos (show (fun a => decide (crw Pt c (nI ii) k (rm (nI a) (nI ii)) n < U (Pt k))) a = true from decide_eq_true h), if_pos (by omega)]
        · rw [hI, hun _ (by omega)] at h
          rw [srN, if_neg (show ¬ (fun a => decide (crw Pt c (nI ii) k (rm (nI a) (nI ii)) n < U (Pt k))) a = true from fun z => h (of_decide_eq_true z))]
          exact ih (a + 1) (by omega) (by omega)
  exact main ii e rfl (Nat.le_refl e)
end MC
end P_32_modulo
