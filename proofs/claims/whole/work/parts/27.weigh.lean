/-! THE EDGES ARE WEIGHED -/
section P_27_weigh
variable {Q : Ou → Prop} {M M0 : Mem} {κ : Kp}
def wE (ii far : Int32) : Option (Int32 × Int32) → Option Int32
  | none => none
  | some (d, q) => if far < q then none else some (d - ii * q)
/-- the weight of the edges from i to j -/
def Wt (ii far : Int32) (n : Nat) (lp : Bool) (O : Op) (L : Nat → Int32) (i j : Nat) : Option Int32 := omx (wE ii far (uE L O lp i j)) (wE ii far (mE O n lp i j))
theorem stM_id {k j : Nat} : stM M k j (M k j) = M := by
  funext a b
  unfold stM
  split
  · rename_i h
    rw [h.1, h.2]
  · rfl
theorem l_mul {a b : Int32} (ha : 0 ≤ a.toInt ∧ a.toInt ≤ 1000) (hb : 0 ≤ b.toInt ∧ b.toInt ≤ 100) : (a * b).toInt = a.toInt * b.toInt ∧ 0 ≤ a.toInt * b.toInt ∧ a.toInt * b.toInt ≤ 1000 * b.toInt := by
  have h1 : 0 ≤ a.toInt * b.toInt := Int.mul_nonneg ha.1 hb.1
  have h2 : a.toInt * b.toInt ≤ 1000 * b.toInt := Int.mul_le_mul_of_nonneg_right ha.2 hb.1
  refine ⟨?_, h1, h2⟩
  rw [Int32.toInt_mul, Int.bmod_eq_of_le (by omega) (by omega)]
theorem mt_rng {O : Op} {n i j : Nat} {lp : Bool} (h : ¬ mtF O n lp i j = -1) : 0 ≤ (mtF O n lp i j).toInt ∧ (mtF O n lp i j).toInt ≤ 64 := by
  unfold mtF at h ⊢
  by_cases c : O 2 i = O 2 j ∧ loo O (O 2 i) n = 0
  · rw [if_pos c] at h ⊢
    have hk : (if i < j then 0 else 1) ≤ 1 := by split <;> decide
    have hT : (if lp = true then 64 else 0) ≤ 64 := by split <;> decide
    generalize (if i < j then 0 else 1) = k0 at h hk ⊢
    generalize (if lp = true then 64 else 0) = T at h hT ⊢
    rw [srch_N] at h ⊢
    by_cases h2 : srN (mtf O n i j) (T + 1 - k0) k0 < k0 + (T + 1 - k0)
    · rw [if_pos h2, nI_toInt (by omega)]
      omega
    · rw [if_neg h2] at h
      exact absurd rfl h
  · rw [if_neg c, nI_toInt (by split <;> omega)]
    split <;> omega
theorem uE_some {L : Nat → Int32} {O : Op} {lp : Bool} {n i j : Nat} (hL : Lok L n) (hi : i < n) (hj : j < n) {d q : Int32} (h : uE L O lp i j = some (d, q)) : (-8 ≤ d.toInt ∧ d.toInt ≤ 8) ∧ q = nI (if i < j then 0 else 1) ∧ usO L O i j = some d ∧ (i < j ∨ lp = true) := by
  unfold uE at h
  split at h
  · cases h2 : usO L O i j with
    | none => rw [h2] at h; cases h
    | some w =>
      rw [h2] at h
      cases h
      exact ⟨us_rng hL hi hj h2, rfl, rfl, ‹_›⟩
  · cases h
theorem mE_some {O : Op} {lp : Bool} {n i j : Nat} {d q : Int32} (h : mE O n lp i j = some (d, q)) : (0 ≤ d.toInt ∧ d.toInt ≤ 1) ∧ (0 ≤ q.toInt ∧ q.toInt ≤ 64) ∧ q = mtF O n lp i j ∧ ¬ q = -1 := by
  unfold mE at h
  split at h
  · rename_i h2
    cases h
    refine ⟨?_, mt_rng h2.2.2, rfl, h2.2.2⟩
    split <;> decide
  · cases h
theorem w_rng {ii d q : Int32} (hi : 0 ≤ ii.toInt ∧ ii.toInt ≤ 1000) (hd : -8 ≤ d.toInt ∧ d.toInt ≤ 8) (hq : 0 ≤ q.toInt ∧ q.toInt ≤ 64) : (d - ii * q).toInt = d.toInt - ii.toInt * q.toInt ∧ -64008 ≤ (d - ii * q).toInt ∧ (d - ii * q).toInt ≤ 8 := by
  have h := l_mul hi (b := q) (by omega)
  have h2 : (d - ii * q).toInt = d.toInt - ii.toInt * q.toInt := by
    rw [l_sub (by omega) (by rw [h.1]; omega), h.1]
  omega
theorem q01 {i j : Nat} : 0 ≤ (nI (if i < j then 0 else 1)).toInt ∧ (nI (if i < j then 0 else 1)).toInt ≤ 64 := by
  rw [nI_toInt (by split <;> omega)]
  split <;> omega
theorem wE_u {ii far : Int32} {L : Nat → Int32} {O : Op} {lp : Bool} {n i j : Nat} (hii : 0 ≤ ii.toInt ∧ ii.toInt ≤ 1000) (hL : Lok L n) (hi : i < n) (hj : j < n) {w : Int32} (h : wE ii far (uE L O lp i j) = some w) : -64008 ≤ w.toInt ∧ w.toInt ≤ 8 := by
  cases h2 : uE L O lp i j with
  | none => rw [h2] at h; cases h
  | some p =>
    obtain ⟨d, q⟩ := p
    rw [h2] at h
    have h3 := uE_some hL hi hj h2
    unfold wE at h
    simp only at h
    split at h
    · cases h
    · cases h
      exact (w_rng hii h3.1 (h3.2.1 ▸ q01)).2
theorem wE_m {ii far : Int32} {O : Op} {lp : Bool} {n i j : Nat} (hii : 0 ≤ ii.toInt ∧ ii.toInt ≤ 1000) {w : Int32} (h : wE ii far (mE O n lp i j) = some w) : -64008 ≤ w.toInt ∧ w.toInt ≤ 8 := by
  cases h2 : mE O n lp i j with
  | none => rw [h2] at h; cases h
  | some p =>
    obtain ⟨d, q⟩ := p
    rw [h2] at h
    have h3 := mE_some h2
    unfold wE at h
    simp only at h
    split at h
    · cases h
    · cases h
      exact (w_rng hii (by omega) h3.2.1).2
theorem omx_rng {a b : Option Int32} {lo hi : Int} (ha : ∀ w, a = some w → lo ≤ w.toInt ∧ w.toInt ≤ hi) (hb : ∀ w, b = some w → lo ≤ w.toInt ∧ w.toInt ≤ hi) : ∀ w, omx a b = some w → lo ≤ w.toInt ∧ w.toInt ≤ hi := by
  intro w h
  match a, b, h with
  | none, b, h => exact hb w h
  | some a, none, h => exact ha w h
  | some a, some b, h =>
    cases h
    have h1 := ha a rfl
    have h2 := hb b rfl
    rw [mx_toInt]
    omega
theorem Wt_rng {ii far : Int32} {L : Nat → Int32} {O : Op} {lp : Bool} {n i j : Nat} (hii : 0 ≤ ii.toInt ∧ ii.toInt ≤ 1000) (hL : Lok L n) (hi : i < n) (hj : j < n) : ∀ w, Wt ii far n lp O L i j = some w → -64008 ≤ w.toInt ∧ w.toInt ≤ 8 :=
  omx_rng (fun w h => wE_u hii hL hi hj h) (fun w h => wE_m hii h)
theorem i_26_0 : ins 26 0 = some (.aload_n 0, 1, 0, 0, 0, 0) := rfl
theorem i_26_1 : ins 26 1 = some (.getfield 33, 4, 1, 6, 0, 0) := rfl
theorem i_26_4 : ins 26 4 = some (.iload_n 2, 5, 2, 0, 0, 0) := rfl
theorem i_26_5 : ins 26 5 = some (.iaload, 6, 0, 0, 0, 0) := rfl
theorem i_26_6 : ins 26 6 = some (.iload_n 3, 7, 3, 0, 0, 0) := rfl
theorem i_26_7 : ins 26 7 = some (.aload_n 0, 8, 0, 0, 0, 0) := rfl
theorem i_26_8 : ins 26 8 = some (.getfield 36, 11, 1, 7, 0, 0) := rfl
theorem i_26_11 : ins 26 11 = some (.iload_n 2, 12, 2, 0, 0, 0) := rfl
theorem i_26_12 : ins 26 12 = some (.iaload, 13, 0, 0, 0, 0) := rfl
theorem i_26_13 : ins 26 13 = some (.imul, 14, 0, 0, 0, 0) := rfl
theorem i_26_14 : ins 26 14 = some (.isub, 15, 0, 0, 0, 0) := rfl
theorem i_26_15 : ins 26 15 = some (.istore 5, 17, 5, 0, 0, 0) := rfl
theorem i_26_17 : ins 26 17 = some (.aload_n 0, 18, 0, 0, 0, 0) := rfl
theorem i_26_18 : ins 26 18 = some (.getfield 36, 21, 1, 7, 0, 0) := rfl
theorem i_26_21 : ins 26 21 = some (.iload_n 2, 22, 2, 0, 0, 0) := rfl
theorem i_26_22 : ins 26 22 = some (.iaload, 23, 0, 0, 0, 0) := rfl
theorem i_26_23 : ins 26 23 = some (.iconst (-1), 24, 0, 0, 0, (-1)) := rfl
theorem i_26_24 : ins 26 24 = some (.if_icmp .eq 33, 27, 57, 0, 0, 0) := rfl
theorem i_26_27 : ins 26 27 = some (.aload_n 0, 28, 0, 0, 0, 0) := rfl
theorem i_26_28 : ins 26 28 = some (.getfield 36, 31, 1, 7, 0, 0) := rfl
theorem i_26_31 : ins 26 31 = some (.iload_n 2, 32, 2, 0, 0, 0) := rfl
theorem i_26_32 : ins 26 32 = some (.iaload, 33, 0, 0, 0, 0) := rfl
theorem i_26_33 : ins 26 33 = some (.iload 4, 35, 4, 0, 0, 0) := rfl
theorem i_26_35 : ins 26 35 = some (.if_icmp .gt 22, 38, 57, 0, 0, 0) := rfl
theorem i_26_38 : ins 26 38 = some (.iload 5, 40, 5, 0, 0, 0) := rfl
theorem i_26_40 : ins 26 40 = some (.aload_n 0, 41, 0, 0, 0, 0) := rfl
theorem i_26_41 : ins 26 41 = some (.getfield 39, 44, 1, 8, 0, 0) := rfl
theorem i_26_44 : ins 26 44 = some (.iload_n 1, 45, 1, 0, 0, 0) := rfl
theorem i_26_45 : ins 26 45 = some (.iaload, 46, 0, 0, 0, 0) := rfl
theorem i_26_46 : ins 26 46 = some (.if_icmp .le 11, 49, 57, 0, 0, 0) := rfl
theorem i_26_49 : ins 26 49 = some (.aload_n 0, 50, 0, 0, 0, 0) := rfl
theorem i_26_50 : ins 26 50 = some (.getfield 39, 53, 1, 8, 0, 0) := rfl
theorem i_26_53 : ins 26 53 = some (.iload_n 1, 54, 1, 0, 0, 0) := rfl
theorem i_26_54 : ins 26 54 = some (.iload 5, 56, 5, 0, 0, 0) := rfl
theorem i_26_56 : ins 26 56 = some (.iastore, 57, 0, 0, 0, 0) := rfl
theorem i_26_57 : ins 26 57 = some (.return_, 58, 0, 0, 0, 0) := rfl
theorem S26_0 {Q : Ou → Prop} {M : Mem} {κ : Kp} (hκ : Rd κ) {a e : Nat} (ha : a < 100) (he : e < 200) {ii : Int32} {far : Int32}
    (k1 : Q (.inl none, (if (M 117 e) = (-1) then M else (if far < (M 117 e) then M else (if (M 118 a) < ((M 116 e) - (ii * (M 117 e))) then (stM M 118 a ((M 116 e) - (ii * (M 117 e)))) else M))), κ))
    : RT 26 (0, [.ref 113, .int (nI a), .int (nI e), .int ii, .int far, UU], [], M, κ) Q := by
  refine w_load i_26_0 rfl rfl ?_
  refine w_getR 116 i_26_1 hκ (⟨rfl, by decide⟩ : isOb 113 1) rfl rfl ?_
  refine w_load i_26_4 rfl rfl ?_
  refine w_ialdN (e := e) (v := (M 116 e)) i_26_5 hκ (⟨rfl, rfl, by decide⟩ : isAr 116 200) (by omega) (by decide) (rfl) ?_
  refine w_load i_26_6 rfl rfl ?_
  refine w_load i_26_7 rfl rfl ?_
  refine w_getR 117 i_26_8 hκ (⟨rfl, by decide⟩ : isOb 113 1) rfl rfl ?_
  refine w_load i_26_11 rfl rfl ?_
  refine w_ialdN (e := e) (v := (M 117 e)) i_26_12 hκ (⟨rfl, rfl, by decide⟩ : isAr 117 200) (by omega) (by decide) (rfl) ?_
  refine w_bin (w := (ii * (M 117 e))) i_26_13 rfl rfl ?_
  refine w_bin (w := ((M 116 e) - (ii * (M 117 e)))) i_26_14 rfl rfl ?_
  refine w_store (l1 := [.ref 113, .int (nI a), .int (nI e), .int ii, .int far, .int ((M 116 e) - (ii * (M 117 e)))]) i_26_15 rfl (Nat.le_of_ble_eq_true rfl) rfl ?_
  refine w_load i_26_17 rfl rfl ?_
  refine w_getR 117 i_26_18 hκ (⟨rfl, by decide⟩ : isOb 113 1) rfl rfl ?_
  refine w_load i_26_21 rfl rfl ?_
  refine w_ialdN (e := e) (v := (M 117 e)) i_26_22 hκ (⟨rfl, rfl, by decide⟩ : isAr 117 200) (by omega) (by decide) (rfl) ?_
  refine w_push i_26_23 rfl ?_
  have K1 : RT 26 (57, [.ref 113, .int (nI a), .int (nI e), .int ii, .int far, .int ((M 116 e) - (ii * (M 117 e)))], [], (if (M 117 e) = (-1) then M else (if far < (M 117 e) then M else (if (M 118 a) < ((M 116 e) - (ii * (M 117 e))) then (stM M 118 a ((M 116 e) - (ii * (M 117 e)))) else M))), κ) Q := by
    exact w_vret i_26_57 rfl (k1)
  refine w_if2 ((M 117 e) = (-1)) i_26_24 cI_eq ?_ ?_
  · intro h2
    exact (by first | exact (K1) | (have K9 := K1; simp only [↓if_pos h2] at K9 ⊢; exact (K9)))
  · intro h3
    refine w_load i_26_27 rfl rfl ?_
    refine w_getR 117 i_26_28 hκ (⟨rfl, by decide⟩ : isOb 113 1) rfl rfl ?_
    refine w_load i_26_31 rfl rfl ?_
    refine w_ialdN (e := e) (v := (M 117 e)) i_26_32 hκ (⟨rfl, rfl, by decide⟩ : isAr 117 200) (by omega) (by decide) (rfl) ?_
    refine w_load i_26_33 rfl rfl ?_
    refine w_if2 (far < (M 117 e)) i_26_35 cI_gt ?_ ?_
    · intro h4
      exact (by first | exact (K1) | (have K9 := K1; simp only [↓if_neg h3, ↓if_pos h4] at K9 ⊢; exact (K9)))
    · intro h5
      refine w_load i_26_38 rfl rfl ?_
      refine w_load i_26_40 rfl rfl ?_
      refine w_getR 118 i_26_41 hκ (⟨rfl, by decide⟩ : isOb 113 1) rfl rfl ?_
      refine w_load i_26_44 rfl rfl ?_
      refine w_ialdN (e := a) (v := (M 118 a)) i_26_45 hκ (⟨rfl, rfl, by decide⟩ : isAr 118 100) (by omega) (by decide) (rfl) ?_
      refine w_if2n ((M 118 a) < ((M 116 e) - (ii * (M 117 e)))) i_26_46 cI_le ?_ ?_
      · intro h6
        refine w_load i_26_49 rfl rfl ?_
        refine w_getR 118 i_26_50 hκ (⟨rfl, by decide⟩ : isOb 113 1) rfl rfl ?_
        refine w_load i_26_53 rfl rfl ?_
        refine w_load i_26_54 rfl rfl ?_
        refine w_iastN (e := a) i_26_56 hκ (⟨rfl, rfl, by decide⟩ : isAr 118 100) (by omega) (by decide) ?_
        exact (by first | exact (K1) | (have K9 := K1; simp only [↓if_neg h3, ↓if_neg h5, ↓if_pos h6] at K9 ⊢; exact (K9)))
      · intro h7
        exact (by first | exact (K1) | (have K9 := K1; simp only [↓if_neg h3, ↓if_neg h5, ↓if_neg h7] at K9 ⊢; exact (K9)))
theorem i_25_0 : ins 25 0 = some (.iconst 0, 1, 0, 0, 0, 0) := rfl
theorem i_25_1 : ins 25 1 = some (.istore_n 3, 2, 3, 0, 0, 0) := rfl
theorem i_25_2 : ins 25 2 = some (.iload_n 3, 3, 3, 0, 0, 0) := rfl
theorem i_25_3 : ins 25 3 = some (.aload_n 0, 4, 0, 0, 0, 0) := rfl
theorem i_25_4 : ins 25 4 = some (.getfield 9, 7, 1, 0, 0, 0) := rfl
theorem i_25_7 : ins 25 7 = some (.if_icmp .ge 67, 10, 74, 0, 0, 0) := rfl
theorem i_25_10 : ins 25 10 = some (.iconst 0, 11, 0, 0, 0, 0) := rfl
theorem i_25_11 : ins 25 11 = some (.istore 4, 13, 4, 0, 0, 0) := rfl
theorem i_25_74 : ins 25 74 = some (.return_, 75, 0, 0, 0, 0) := rfl
theorem S25_0 {Q : Ou → Prop} {M : Mem} {κ : Kp} (hκ : Rd κ) {n i j : Nat} (hi : i ≤ n) (hj : j ≤ n) (hn : n ≤ 10) (hc : M 113 0 = nI n) {ii : Int32} {far : Int32}
    (k1 : RT 25 (2, [.ref 113, .int ii, .int far, .int (nI 0), UU, UU], [], M, κ) Q)
    : RT 25 (0, [.ref 113, .int ii, .int far, UU, UU, UU], [], M, κ) Q := by
  refine w_push i_25_0 rfl ?_
  refine w_store (l1 := [.ref 113, .int ii, .int far, .int 0, UU, UU]) i_25_1 rfl (Nat.le_of_ble_eq_true rfl) rfl ?_
  exact (k1)
theorem S25_2 {Q : Ou → Prop} {M : Mem} {κ : Kp} (hκ : Rd κ) {n i j : Nat} (hi : i ≤ n) (hj : j ≤ n) (hn : n ≤ 10) (hc : M 113 0 = nI n) {ii : Int32} {far : Int32}
    (k1 : i < n → RT 25 (13, [.ref 113, .int ii, .int far, .int (nI i), .int (nI 0), UU], [], M, κ) Q)
    (k2 : ¬ (i < n) → Q (.inl none, M, κ))
    : RT 25 (2, [.ref 113, .int ii, .int far, .int (nI i), UU, UU], [], M, κ) Q := by
  refine w_load i_25_2 rfl rfl ?_
  refine w_load i_25_3 rfl rfl ?_
  refine w_getI (v := (nI n)) i_25_4 hκ (⟨rfl, by decide⟩ : isOb 113 1) rfl (hc) ?_
  refine w_if2n (i < n) i_25_7 (cN_ge (a := i) (b := n) (by omega) (by omega)) ?_ ?_
  · intro h1
    refine w_push i_25_10 rfl ?_
    refine w_store (l1 := [.ref 113, .int ii, .int far, .int (nI i), .int 0, UU]) i_25_11 rfl (Nat.le_of_ble_eq_true rfl) rfl ?_
    exact (k1 h1)
  · intro h2
    exact w_vret i_25_74 rfl (k2 h2)
theorem i_25_13 : ins 25 13 = some (.iload 4, 15, 4, 0, 0, 0) := rfl
theorem i_25_15 : ins 25 15 = some (.aload_n 0, 16, 0, 0, 0, 0) := rfl
theorem i_25_16 : ins 25 16 = some (.getfield 9, 19, 1, 0, 0, 0) := rfl
theorem i_25_19 : ins 25 19 = some (.if_icmp .ge 49, 22, 68, 0, 0, 0) := rfl
theorem i_25_22 : ins 25 22 = some (.iload_n 3, 23, 3, 0, 0, 0) := rfl
theorem i_25_23 : ins 25 23 = some (.iload 4, 25, 4, 0, 0, 0) := rfl
theorem i_25_25 : ins 25 25 = some (.invokestatic 74, 28, 15, 1, 2, 0) := rfl
theorem i_25_28 : ins 25 28 = some (.istore 5, 30, 5, 0, 0, 0) := rfl
theorem i_25_30 : ins 25 30 = some (.aload_n 0, 31, 0, 0, 0, 0) := rfl
theorem i_25_31 : ins 25 31 = some (.getfield 39, 34, 1, 8, 0, 0) := rfl
theorem i_25_34 : ins 25 34 = some (.iload 5, 36, 5, 0, 0, 0) := rfl
theorem i_25_36 : ins 25 36 = some (.ldc 85, 38, 85, 0, 0, (-1000000)) := rfl
theorem i_25_38 : ins 25 38 = some (.iastore, 39, 0, 0, 0, 0) := rfl
theorem i_25_39 : ins 25 39 = some (.aload_n 0, 40, 0, 0, 0, 0) := rfl
theorem i_25_40 : ins 25 40 = some (.iload 5, 42, 5, 0, 0, 0) := rfl
theorem i_25_42 : ins 25 42 = some (.iload 5, 44, 5, 0, 0, 0) := rfl
theorem i_25_44 : ins 25 44 = some (.iload_n 1, 45, 1, 0, 0, 0) := rfl
theorem i_25_45 : ins 25 45 = some (.iload_n 2, 46, 2, 0, 0, 0) := rfl
theorem i_25_46 : ins 25 46 = some (.invokevirtual 123, 49, 26, 0, 5, 0) := rfl
theorem i_25_68 : ins 25 68 = some (.iinc 3 1, 71, 3, 0, 0, 1) := rfl
theorem i_25_71 : ins 25 71 = some (.goto (-69), 74, 2, 0, 0, 0) := rfl
theorem S25_13 {Q : Ou → Prop} {M : Mem} {κ : Kp} (hκ : Rd κ) {n i j : Nat} (hi : i < n) (hj : j ≤ n) (hn : n ≤ 10) (hc : M 113 0 = nI n) {ii : Int32} {far : Int32}
    (k1 : j < n → RT 26 (0, entL 26 [.ref 113, .int (nI (i * 10 + j)), .int (nI (i * 10 + j)), .int ii, .int far], [], (stM M 118 (i * 10 + j) (-1000000)), κ) (fun o => ∃ v M1 κ1, o = (.inl v, M1, κ1) ∧ RT 25 (49, [.ref 113, .int ii, .int far, .int (nI i), .int (nI j), .int (nI (i * 10 + j))], v.toList ++ [], M1, κ1) Q))
    (k2 : ¬ (j < n) → RT 25 (2, [.ref 113, .int ii, .int far, .int (nI (i + 1)), UU, UU], [], M, κ) Q)
    : RT 25 (13, [.ref 113, .int ii, .int far, .int (nI i), .int (nI j), UU], [], M, κ) Q := by
  refine w_load i_25_13 rfl rfl ?_
  refine w_load i_25_15 rfl rfl ?_
  refine w_getI (v := (nI n)) i_25_16 hκ (⟨rfl, by decide⟩ : isOb 113 1) rfl (hc) ?_
  refine w_if2n (j < n) i_25_19 (cN_ge (a := j) (b := n) (by omega) (by omega)) ?_ ?_
  · intro h1
    refine w_load i_25_22 rfl rfl ?_
    refine w_load i_25_23 rfl rfl ?_
    refine w_callS i_25_25 ⟨by decide, by decide, by decide, rfl, rfl⟩ (av := [.int (nI i), .int (nI j)]) (rest := []) rfl rfl (Nat.le_of_ble_eq_true rfl) (v := some (.int (nI (i * 10 + j)))) (c15N hκ) ?_
    refine w_store (l1 := [.ref 113, .int ii, .int far, .int (nI i), .int (nI j), .int (nI (i * 10 + j))]) i_25_28 rfl (Nat.le_of_ble_eq_true rfl) rfl ?_
    refine w_load i_25_30 rfl rfl ?_
    refine w_getR 118 i_25_31 hκ (⟨rfl, by decide⟩ : isOb 113 1) rfl rfl ?_
    refine w_load i_25_34 rfl rfl ?_
    refine w_push i_25_36 rfl ?_
    refine w_iastN (e := (i * 10 + j)) i_25_38 hκ (⟨rfl, rfl, by decide⟩ : isAr 118 100) (by omega) (by decide) ?_
    refine w_load i_25_39 rfl rfl ?_
    refine w_load i_25_40 rfl rfl ?_
    refine w_load i_25_42 rfl rfl ?_
    refine w_load i_25_44 rfl rfl ?_
    refine w_load i_25_45 rfl rfl ?_
    exact w_callVI (i := _) i_25_46 ⟨by decide, by decide, by decide, rfl⟩ hκ (⟨rfl, by decide⟩ : isOb 113 1) (av := [.int (nI (i * 10 + j)), .int (nI (i * 10 + j)), .int ii, .int far]) (rest := []) rfl rfl (Nat.le_of_ble_eq_true rfl) (k1 h1)
  · intro h2
    refine w_iincN (n := i) (l1 := [.ref 113, .int ii, .int far, .int (nI (i + 1)), .int (nI j), UU]) 1 i_25_68 rfl rfl ?_
    refine w_goto i_25_71 ?_
    exact w_weak (lle_s (lle_s (lle_s (lle_s (lle_u (lle_s lle_n)))))) (k2 h2)
theorem i_25_49 : ins 25 49 = some (.aload_n 0, 50, 0, 0, 0, 0) := rfl
theorem i_25_50 : ins 25 50 = some (.iload 5, 52, 5, 0, 0, 0) := rfl
theorem i_25_52 : ins 25 52 = some (.bipush 100, 54, 0, 0, 0, 100) := rfl
theorem i_25_54 : ins 25 54 = some (.iload 5, 56, 5, 0, 0, 0) := rfl
theorem i_25_56 : ins 25 56 = some (.iadd, 57, 0, 0, 0, 0) := rfl
theorem i_25_57 : ins 25 57 = some (.iload_n 1, 58, 1, 0, 0, 0) := rfl
theorem i_25_58 : ins 25 58 = some (.iload_n 2, 59, 2, 0, 0, 0) := rfl
theorem i_25_59 : ins 25 59 = some (.invokevirtual 123, 62, 26, 0, 5, 0) := rfl
theorem i_25_62 : ins 25 62 = some (.iinc 4 1, 65, 4, 0, 0, 1) := rfl
theorem i_25_65 : ins 25 65 = some (.goto (-52), 68, 13, 0, 0, 0) := rfl
theorem S25_49 {Q : Ou → Prop} {M : Mem} {κ : Kp} (hκ : Rd κ) {n i j : Nat} (hi : i < n) (hj : j < n) (hn : n ≤ 10) (hc : M 113 0 = nI n) {ii : Int32} {far : Int32}
    (k1 : RT 26 (0, entL 26 [.ref 113, .int (nI (i * 10 + j)), .int (nI (100 + (i * 10 + j))), .int ii, .int far], [], M, κ) (fun o => ∃ v M1 κ1, o = (.inl v, M1, κ1) ∧ RT 25 (62, [.ref 113, .int ii, .int far, .int (nI i), .int (nI j), .int (nI (i * 10 + j))], v.toList ++ [], M1, κ1) Q))
    : RT 25 (49, [.ref 113, .int ii, .int far, .int (nI i), .int (nI j), .int (nI (i * 10 + j))], [], M, κ) Q := by
  refine w_load i_25_49 rfl rfl ?_
  refine w_load i_25_50 rfl rfl ?_
  refine w_push i_25_52 rfl ?_
  refine w_load i_25_54 rfl rfl ?_
  refine w_bin (w := (nI (100 + (i * 10 + j)))) i_25_56 rfl (nI_add 100 (i * 10 + j)) ?_
  refine w_load i_25_57 rfl rfl ?_
  refine w_load i_25_58 rfl rfl ?_
  exact w_callVI (i := _) i_25_59 ⟨by decide, by decide, by decide, rfl⟩ hκ (⟨rfl, by decide⟩ : isOb 113 1) (av := [.int (nI (i * 10 + j)), .int (nI (100 + (i * 10 + j))), .int ii, .int far]) (rest := []) rfl rfl (Nat.le_of_ble_eq_true rfl) (k1)
theorem S25_62 {Q : Ou → Prop} {M : Mem} {κ : Kp} (hκ : Rd κ) {n i j : Nat} (hi : i < n) (hj : j < n) (hn : n ≤ 10) (hc : M 113 0 = nI n) {ii : Int32} {far : Int32}
    (k1 : RT 25 (13, [.ref 113, .int ii, .int far, .int (nI i), .int (nI (j + 1)), UU], [], M, κ) Q)
    : RT 25 (62, [.ref 113, .int ii, .int far, .int (nI i), .int (nI j), .int (nI (i * 10 + j))], [], M, κ) Q := by
  refine w_iincN (n := j) (l1 := [.ref 113, .int ii, .int far, .int (nI i), .int (nI (j + 1)), .int (nI (i * 10 + j))]) 1 i_25_62 rfl rfl ?_
  refine w_goto i_25_65 ?_
  exact w_weak (lle_s (lle_s (lle_s (lle_s (lle_s (lle_u lle_n)))))) (k1)
theorem f26 (hκ : Rd κ) {a e : Nat} (ha : a < 100) (he : e < 200) {ii far : Int32} {o : Option (Int32 × Int32)} {A : Option Int32} (hE : Ed M e o) (hq : ∀ d q, o = some (d, q) → ¬ q = -1) (hA : M 118 a = enc (-1000000) A) (h1 : oab (-1000000) A) (h2 : oab (-1000000) (wE ii far o)) : Run 26 (0, entL 26 [.ref 113, .int (nI a), .int (nI e), .int ii, .int far], [], M, κ) (.inl none, stM M 118 a (enc (-1000000) (omx A (wE ii far o))), κ) := by
  refine RT_run (S26_0 hκ ha he ?_)
  have stay : enc (-1000000) (omx A (wE ii far o)) = M 118 a → M = stM M 118 a (enc (-1000000) (omx A (wE ii far o))) := fun h => by rw [h, stM_id]
  have nn : ∀ A : Option Int32, omx A none = A := fun A => by cases A <;> rfl
  match o, hE, hq, h2, stay with
  | none, hE, hq, h2, stay =>
    rw [if_pos (show M 117 e = -1 from hE), ← stay (by rw [hA]; show enc _ (omx A none) = _; rw [nn])]
  | some (d, q), hE, hq, h2, stay =>
    obtain ⟨hd, hq'⟩ := hE
    rw [hq', hd, if_neg (hq d q rfl)]
    by_cases c : far < q
    · have e1 : wE ii far (some (d, q)) = none := if_pos c
      rw [if_pos c, ← stay (by rw [hA, e1, nn])]
    · have e1 : wE ii far (some (d, q)) = some (d - ii * q) := if_neg c
      rw [if_neg c, enc_mx h1 h2, ← hA, e1]
      show _ = (Sum.inl none, stM M 118 a (if M 118 a < d - ii * q then d - ii * q else M 118 a), κ)
      by_cases c2 : M 118 a < d - ii * q
      · rw [if_pos c2, if_pos c2]
      · rw [if_neg c2, if_neg c2, stM_id]
def Gw (M : Mem) (n : Nat) (W : Nat → Nat → Option Int32) (i j : Nat) : Prop := ∀ i' j', i' < n → j' < n → (i' < i ∨ (i' = i ∧ j' < j)) → M 118 (i' * 10 + j') = enc (-1000000) (W i' j')
theorem oab_of {s : Int32} {a : Option Int32} {lo hi : Int} (h : ∀ w, a = some w → lo ≤ w.toInt ∧ w.toInt ≤ hi) (hs : s.toInt < lo) : oab s a := fun w hw => by
  have := h w hw
  omega
theorem f25 (hκ : Rd κ) {n : Nat} {lp : Bool} {O : Op} {L : Nat → Int32} {ii far : Int32} (hn : n ≤ 10) (hc : M0 113 0 = nI n) (hL : Lok L n) (hii : 0 ≤ ii.toInt ∧ ii.toInt ≤ 1000) (g : G2 M0 n lp O L n 0)
    (K : ∀ M, (∀ o x, ¬ o = 118 → M o x = M0 o x) → Gw M n (Wt ii far n lp O L) n 0 → Q (.inl none, M, κ)) : RT 25 (0, entL 25 [.ref 113, .int ii, .int far], [], M0, κ) Q := by
  have C : ∀ i, i < n → (∀ M, (∀ o x, ¬ o = 118 → M o x = M0 o x) → Gw M n (Wt ii far n lp O L) (i + 1) 0 → RT 25 (2, [.ref 113, .int ii, .int far, .int (nI (i + 1)), UU, UU], [], M, κ) Q) → ∀ d j M, j + d = n → (∀ o x, ¬ o = 118 → M o x = M0 o x) → Gw M n (Wt ii far n lp O L) i j → RT 25 (13, [.ref 113, .int ii, .int far, .int (nI i), .int (nI j), UU], [], M, κ) Q := by
    intro i hi K d
    induction d with
    | zero =>
      intro j M hj hf hg
      exact S25_13 hκ hi (by omega) hn ((hf _ _ (by decide)).trans hc) (fun z => absurd z (by omega)) (fun _ => K M hf (fun a c ha hc h => hg a c ha hc (by omega)))
    | succ d ih =>
      intro j M hj hf hg
      have hjn : j < n := by omega
      refine S25_13 hκ hi (by omega) hn ((hf _ _ (by decide)).trans hc) (fun _ => ?_) (fun z => absurd hjn z)
      have gg := g i j hi hjn (.inl hi)
      have a1 : oab (-1000000) (wE ii far (uE L O lp i j)) := oab_of (fun w h => wE_u hii hL hi hjn h) (by decide)
      have a2 : oab (-1000000) (wE ii far (mE O n lp i j)) := oab_of (fun w h => wE_m hii h) (by decide)
      have hf1 : ∀ v o x, ¬ o = 118 → stM M 118 (i * 10 + j) v o x = M0 o x := fun v o x h => (stM_o h).trans (hf o x h)
      refine RT_of (f26 hκ (by omega) (by omega) (o := uE L O lp i j) (A := none) (Ed_eq (hf1 _ _ _ (by decide)) (hf1 _ _ _ (by decide)) gg.1) (fun d q h => ?_) stM_s (fun w h => by cases h) a1) ?_
      · rw [(uE_some hL hi hjn h).2.1]
        exact nI_m1 (by split <;> omega)
      refine ⟨none, _, κ, rfl, ?_⟩
      have hf2 : ∀ v v' o x, ¬ o = 118 → stM (stM M 118 (i * 10 + j) v) 118 (i * 10 + j) v' o x = M0 o x := fun v v' o x h => (stM_o h).trans (hf1 v o x h)
      refine S25_49 hκ hi hjn hn ((hf2 _ _ _ _ (by decide)).trans hc) ?_
      refine RT_of (f26 hκ (by omega) (by omega) (o := mE O n lp i j) (A := omx none (wE ii far (uE L O lp i j))) (Ed_eq (hf2 _ _ _ _ (by decide)) (hf2 _ _ _ _ (by decide)) gg.2) (fun d q h => (mE_some h).2.2.2) stM_s a1 a2) ?_
      refine ⟨none, _, κ, rfl, ?_⟩
      refine S25_62 hκ hi hjn hn ((stM_o (by decide)).trans ((hf2 _ _ _ _ (by decide)).trans hc)) ?_
      refine ih (j + 1) _ (by omega) (fun o x h => (stM_o h).trans (hf2 _ _ o x h)) (fun a c ha hc' h => ?_)
      by_cases q : a = i ∧ c = j
      · obtain ⟨rfl, rfl⟩ := q
        exact stM_s
      · rw [stM_j (by omega), stM_j (by omega), stM_j (by omega)]
        exact hg a c ha hc' (by omega)
  have B : ∀ d i M, i + d = n → (∀ o x, ¬ o = 118 → M o x = M0 o x) → Gw M n (Wt ii far n lp O L) i 0 → RT 25 (2, [.ref 113, .int ii, .int far, .int (nI i), UU, UU], [], M, κ) Q := by
    intro d
    induction d with
    | zero =>
      intro i M hi hf hg
      have e : i = n := by omega
      subst e
      exact S25_2 (j := 0) hκ (Nat.le_refl _) (by omega) hn ((hf _ _ (by decide)).trans hc) (fun z => absurd z (Nat.lt_irrefl _)) (fun _ => K M hf hg)
    | succ d ih =>
      intro i M hi hf hg
      have hin : i < n := by omega
      refine S25_2 (j := 0) hκ (by omega) (by omega) hn ((hf _ _ (by decide)).trans hc) (fun _ => ?_) (fun z => absurd hin z)
      exact C i hin (fun M a b => ih (i + 1) M (by omega) a b) n 0 M (by omega) hf hg
  exact S25_0 (i := 0) (j := 0) hκ (by omega) (by omega) hn hc (B n 0 M0 (by omega) (fun o x _ => rfl) (fun a c ha hc h => by omega))
end P_27_weigh
