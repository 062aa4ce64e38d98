/-! filled, on both sides -/
section P_58_fill
theorem i_151_0 : ins 151 0 = some (.aload_n 0, 1, 0, 0, 0, 0) := rfl
theorem i_151_1 : ins 151 1 = some (.aload_n 0, 2, 0, 0, 0, 0) := rfl
theorem i_151_2 : ins 151 2 = some (.iload_n 1, 3, 1, 0, 0, 0) := rfl
theorem i_151_3 : ins 151 3 = some (.iconst 1, 4, 0, 0, 0, 1) := rfl
theorem i_151_4 : ins 151 4 = some (.iconst 1, 5, 0, 0, 0, 1) := rfl
theorem i_151_5 : ins 151 5 = some (.invokevirtual 322, 8, 147, 0, 4, 0) := rfl
theorem i_151_8 : ins 151 8 = some (.putfield 159, 11, 7, 0, 0, 0) := rfl
theorem i_151_11 : ins 151 11 = some (.aload_n 0, 12, 0, 0, 0, 0) := rfl
theorem i_151_12 : ins 151 12 = some (.getfield 159, 15, 7, 0, 0, 0) := rfl
theorem i_151_15 : ins 151 15 = some (.ifCond .gt 12, 18, 27, 0, 0, 0) := rfl
theorem i_151_18 : ins 151 18 = some (.aload_n 0, 19, 0, 0, 0, 0) := rfl
theorem i_151_27 : ins 151 27 = some (.dconst 0, 28, 0, 0, 0, 0) := rfl
theorem i_151_28 : ins 151 28 = some (.dreturn, 29, 0, 0, 0, 0) := rfl
theorem S151_0 {Q : Ou → Prop} {M : Mem} {κ : Kp} (hκ : Rd κ)  {kk : Int32} {r_5 : Nat}
    (o1 : Run 147 (0, entL 147 [.ref 134, .int kk, .int 1, .int 1], [], M, κ) (.inl (some (.int (nI r_5))), M, κ))
    (k1 : 0 < (nI r_5) → Q (.inl (some (.double 0)), (stM M 134 0 (nI r_5)), κ))
    (k2 : ¬ (0 < (nI r_5)) → RT 151 (19, [.ref 134, .int kk, UU, UU, UU, UU], [.ref 134], (stM M 134 0 (nI r_5)), κ) Q)
    : RT 151 (0, [.ref 134, .int kk, UU, UU, UU, UU], [], M, κ) Q := by
  refine w_load i_151_0 rfl rfl ?_
  refine w_load i_151_1 rfl rfl ?_
  refine w_load i_151_2 rfl rfl ?_
  refine w_push i_151_3 rfl ?_
  refine w_push i_151_4 rfl ?_
  refine w_callV (i := _) i_151_5 ⟨by decide, by decide, by decide, rfl⟩ hκ (⟨rfl, by decide⟩ : isOb 134 7) (av := [.int kk, .int 1, .int 1]) (rest := [.ref 134]) rfl rfl (Nat.le_of_ble_eq_true rfl) (v := some (.int (nI r_5))) (o1) ?_
  refine w_putI i_151_8 hκ (⟨rfl, by decide⟩ : isOb 134 7) rfl (fun c => absurd c (by decide)) ?_
  refine w_load i_151_11 rfl rfl ?_
  refine w_getI (v := (nI r_5)) i_151_12 hκ (⟨rfl, by decide⟩ : isOb 134 7) rfl (stM_s) ?_
  refine w_if0 (0 < (nI r_5)) i_151_15 cI0_gt ?_ ?_
  · intro h1
    refine w_dpush i_151_27 ?_
    exact w_dret i_151_28 rfl (k1 h1)
  · intro h2
    refine w_load i_151_18 rfl rfl ?_
    exact (k2 h2)
theorem i_151_19 : ins 151 19 = some (.getfield 78, 22, 7, 26, 0, 0) := rfl
theorem i_151_22 : ins 151 22 = some (.iload_n 1, 23, 1, 0, 0, 0) := rfl
theorem i_151_23 : ins 151 23 = some (.iaload, 24, 0, 0, 0, 0) := rfl
theorem i_151_24 : ins 151 24 = some (.ifCond .ne 5, 27, 29, 0, 0, 0) := rfl
theorem i_151_29 : ins 151 29 = some (.aload_n 0, 30, 0, 0, 0, 0) := rfl
theorem i_151_30 : ins 151 30 = some (.getfield 114, 33, 7, 38, 0, 0) := rfl
theorem i_151_33 : ins 151 33 = some (.iload_n 1, 34, 1, 0, 0, 0) := rfl
theorem i_151_34 : ins 151 34 = some (.iaload, 35, 0, 0, 0, 0) := rfl
theorem i_151_35 : ins 151 35 = some (.ifCond .le 13, 38, 48, 0, 0, 0) := rfl
theorem i_151_38 : ins 151 38 = some (.aload_n 0, 39, 0, 0, 0, 0) := rfl
theorem i_151_39 : ins 151 39 = some (.getfield 114, 42, 7, 38, 0, 0) := rfl
theorem i_151_42 : ins 151 42 = some (.iload_n 1, 43, 1, 0, 0, 0) := rfl
theorem i_151_43 : ins 151 43 = some (.iaload, 44, 0, 0, 0, 0) := rfl
theorem i_151_44 : ins 151 44 = some (.i2d, 45, 0, 0, 0, 0) := rfl
theorem i_151_45 : ins 151 45 = some (.goto 10, 48, 55, 0, 0, 0) := rfl
theorem i_151_48 : ins 151 48 = some (.aload_n 0, 49, 0, 0, 0, 0) := rfl
theorem i_151_49 : ins 151 49 = some (.getfield 108, 52, 7, 36, 0, 0) := rfl
theorem i_151_52 : ins 151 52 = some (.iload_n 1, 53, 1, 0, 0, 0) := rfl
theorem i_151_53 : ins 151 53 = some (.iaload, 54, 0, 0, 0, 0) := rfl
theorem i_151_54 : ins 151 54 = some (.i2d, 55, 0, 0, 0, 0) := rfl
theorem i_151_55 : ins 151 55 = some (.dstore_n 2, 56, 2, 0, 0, 0) := rfl
theorem i_151_56 : ins 151 56 = some (.aload_n 0, 57, 0, 0, 0, 0) := rfl
theorem i_151_57 : ins 151 57 = some (.getfield 7, 60, 7, 1, 0, 0) := rfl
theorem i_151_60 : ins 151 60 = some (.aload_n 0, 61, 0, 0, 0, 0) := rfl
theorem i_151_61 : ins 151 61 = some (.getfield 13, 64, 7, 2, 0, 0) := rfl
theorem i_151_64 : ins 151 64 = some (.iadd, 65, 0, 0, 0, 0) := rfl
theorem i_151_65 : ins 151 65 = some (.i2d, 66, 0, 0, 0, 0) := rfl
theorem i_151_66 : ins 151 66 = some (.dstore 4, 68, 4, 0, 0, 0) := rfl
theorem i_151_68 : ins 151 68 = some (.aload_n 0, 69, 0, 0, 0, 0) := rfl
theorem i_151_69 : ins 151 69 = some (.getfield 78, 72, 7, 26, 0, 0) := rfl
theorem i_151_72 : ins 151 72 = some (.iload_n 1, 73, 1, 0, 0, 0) := rfl
theorem i_151_73 : ins 151 73 = some (.iaload, 74, 0, 0, 0, 0) := rfl
theorem i_151_74 : ins 151 74 = some (.i2d, 75, 0, 0, 0, 0) := rfl
theorem i_151_75 : ins 151 75 = some (.dload_n 2, 76, 2, 0, 0, 0) := rfl
theorem i_151_76 : ins 151 76 = some (.dload 4, 78, 4, 0, 0, 0) := rfl
theorem i_151_78 : ins 151 78 = some (.dmul, 79, 0, 0, 0, 0) := rfl
theorem i_151_79 : ins 151 79 = some (.ddiv, 80, 0, 0, 0, 0) := rfl
theorem i_151_80 : ins 151 80 = some (.dreturn, 81, 0, 0, 0, 0) := rfl
theorem S151_19 {Q : Ou → Prop} {M : Mem} {κ : Kp} (hκ : Rd κ) {x n ii len : Nat} {ua up : Nat} (hx : x < 6) (hu : M 134 1 = nI ua) (hp : M 134 2 = nI up) (hn10 : n ≤ 10) (hi8 : ii ≤ 80) (hl8 : len ≤ 80) (hn : M 151 x = nI n) (hii : M 163 x = nI ii) (hlen : M 161 x = nI len) 
    (o1 : ¬ (n = 0) → vf_n64 (FP.dmul (if 0 < ii then (FP.i2d (nI ii)) else (FP.i2d (nI len))) (FP.i2d (nI (ua + up)))))
    (o2 : ¬ (n = 0) → vf_n64 (FP.ddiv (FP.i2d (nI n)) (FP.dmul (if 0 < ii then (FP.i2d (nI ii)) else (FP.i2d (nI len))) (FP.i2d (nI (ua + up))))))
    (k1 : n = 0 → Q (.inl (some (.double 0)), M, κ))
    (k2 : ¬ (n = 0) → Q (.inl (some (.double (FP.ddiv (FP.i2d (nI n)) (FP.dmul (if 0 < ii then (FP.i2d (nI ii)) else (FP.i2d (nI len))) (FP.i2d (nI (ua + up))))))), M, κ))
    : RT 151 (19, [.ref 134, .int (nI x), UU, UU, UU, UU], [.ref 134], M, κ) Q := by
  refine w_getR 151 i_151_19 hκ (⟨rfl, by decide⟩ : isOb 134 7) rfl rfl ?_
  refine w_load i_151_22 rfl rfl ?_
  refine w_ialdN (e := x) (v := (nI n)) i_151_23 hκ (⟨rfl, rfl, by decide⟩ : isAr 151 6) (by omega) (by decide) (hn) ?_
  refine w_if0n (n = 0) i_151_24 (cZ_ne (a := n) (by omega) (by decide)) ?_ ?_
  · intro h1
    refine w_dpush i_151_27 ?_
    exact w_dret i_151_28 rfl (k1 h1)
  · intro h2
    refine w_load i_151_29 rfl rfl ?_
    refine w_getR 163 i_151_30 hκ (⟨rfl, by decide⟩ : isOb 134 7) rfl rfl ?_
    refine w_load i_151_33 rfl rfl ?_
    refine w_ialdN (e := x) (v := (nI ii)) i_151_34 hκ (⟨rfl, rfl, by decide⟩ : isAr 163 6) (by omega) (by decide) (hii) ?_
    have K3 : RT 151 (55, [.ref 134, .int (nI x), UU, UU, UU, UU], [.double (if 0 < ii then (FP.i2d (nI ii)) else (FP.i2d (nI len)))], M, κ) Q := by
      refine w_store (l1 := [.ref 134, .int (nI x), .double (if 0 < ii then (FP.i2d (nI ii)) else (FP.i2d (nI len))), UU, UU, UU]) i_151_55 rfl (Nat.le_of_ble_eq_true rfl) rfl ?_
      refine w_load i_151_56 rfl rfl ?_
      refine w_getI (v := (nI ua)) i_151_57 hκ (⟨rfl, by decide⟩ : isOb 134 7) rfl (hu) ?_
      refine w_load i_151_60 rfl rfl ?_
      refine w_getI (v := (nI up)) i_151_61 hκ (⟨rfl, by decide⟩ : isOb 134 7) rfl (hp) ?_
      refine w_bin (w := (nI (ua + up))) i_151_64 rfl (nI_add ua up) ?_
      refine w_i2d i_151_65 ?_
      refine w_store (l1 := [.ref 134, .int (nI x), .double (if 0 < ii then (FP.i2d (nI ii)) else (FP.i2d (nI len))), UU, .double (FP.i2d (nI (ua + up))), UU]) i_151_66 rfl (Nat.le_of_ble_eq_true rfl) rfl ?_
      refine w_load i_151_68 rfl rfl ?_
      refine w_getR 151 i_151_69 hκ (⟨rfl, by decide⟩ : isOb 134 7) rfl rfl ?_
      refine w_load i_151_72 rfl rfl ?_
      refine w_ialdN (e := x) (v := (nI n)) i_151_73 hκ (⟨rfl, rfl, by decide⟩ : isAr 151 6) (by omega) (by decide) (hn) ?_
      refine w_i2d i_151_74 ?_
      refine w_load i_151_75 rfl rfl ?_
      refine w_load i_151_76 rfl rfl ?_
      refine w_dmul i_151_78 (o1 h2) ?_
      refine w_ddiv i_151_79 (o2 h2) ?_
      exact w_dret i_151_80 rfl (k2 h2)
    refine w_if0n (0 < ii) i_151_35 (cZ_le (a := ii) (by omega) (by decide)) ?_ ?_
    · intro h4
      refine w_load i_151_38 rfl rfl ?_
      refine w_getR 163 i_151_39 hκ (⟨rfl, by decide⟩ : isOb 134 7) rfl rfl ?_
      refine w_load i_151_42 rfl rfl ?_
      refine w_ialdN (e := x) (v := (nI ii)) i_151_43 hκ (⟨rfl, rfl, by decide⟩ : isAr 163 6) (by omega) (by decide) (hii) ?_
      refine w_i2d i_151_44 ?_
      refine w_goto i_151_45 ?_
      exact (by first | exact (K3) | (have K9 := K3; simp only [↓if_pos h4] at K9 ⊢; exact (K9)))
    · intro h5
      refine w_load i_151_48 rfl rfl ?_
      refine w_getR 161 i_151_49 hκ (⟨rfl, by decide⟩ : isOb 134 7) rfl rfl ?_
      refine w_load i_151_52 rfl rfl ?_
      refine w_ialdN (e := x) (v := (nI len)) i_151_53 hκ (⟨rfl, rfl, by decide⟩ : isAr 161 6) (by omega) (by decide) (hlen) ?_
      refine w_i2d i_151_54 ?_
      exact (by first | exact (K3) | (have K9 := K3; simp only [↓if_neg h5] at K9 ⊢; exact (K9)))
theorem i_79_5 : ins 79 5 = some (.aload_n 0, 6, 0, 0, 0, 0) := rfl
theorem i_79_6 : ins 79 6 = some (.getfield 27, 9, 6, 3, 0, 0) := rfl
theorem i_79_9 : ins 79 9 = some (.iload_n 1, 10, 1, 0, 0, 0) := rfl
theorem i_79_10 : ins 79 10 = some (.aaload, 11, 0, 0, 0, 0) := rfl
theorem i_79_11 : ins 79 11 = some (.invokevirtual 203, 14, 58, 0, 1, 0) := rfl
theorem i_79_14 : ins 79 14 = some (.aload_n 0, 15, 0, 0, 0, 0) := rfl
theorem i_79_15 : ins 79 15 = some (.getfield 10, 18, 6, 0, 0, 0) := rfl
theorem i_79_18 : ins 79 18 = some (.getfield 72, 21, 2, 0, 0, 0) := rfl
theorem i_79_21 : ins 79 21 = some (.aload_n 0, 22, 0, 0, 0, 0) := rfl
theorem i_79_22 : ins 79 22 = some (.getfield 10, 25, 6, 0, 0, 0) := rfl
theorem i_79_25 : ins 79 25 = some (.getfield 75, 28, 2, 1, 0, 0) := rfl
theorem i_79_28 : ins 79 28 = some (.iadd, 29, 0, 0, 0, 0) := rfl
theorem i_79_29 : ins 79 29 = some (.imul, 30, 0, 0, 0, 0) := rfl
theorem i_79_30 : ins 79 30 = some (.istore_n 2, 31, 2, 0, 0, 0) := rfl
theorem i_79_31 : ins 79 31 = some (.iload_n 2, 32, 2, 0, 0, 0) := rfl
theorem i_79_32 : ins 79 32 = some (.ifCond .le 19, 35, 51, 0, 0, 0) := rfl
theorem i_79_35 : ins 79 35 = some (.aload_n 0, 36, 0, 0, 0, 0) := rfl
theorem i_79_36 : ins 79 36 = some (.getfield 22, 39, 6, 2, 0, 0) := rfl
theorem i_79_39 : ins 79 39 = some (.iload_n 1, 40, 1, 0, 0, 0) := rfl
theorem i_79_40 : ins 79 40 = some (.aaload, 41, 0, 0, 0, 0) := rfl
theorem i_79_41 : ins 79 41 = some (.getfield 101, 44, 0, 4, 0, 0) := rfl
theorem i_79_44 : ins 79 44 = some (.i2d, 45, 0, 0, 0, 0) := rfl
theorem i_79_45 : ins 79 45 = some (.iload_n 2, 46, 2, 0, 0, 0) := rfl
theorem i_79_46 : ins 79 46 = some (.i2d, 47, 0, 0, 0, 0) := rfl
theorem i_79_47 : ins 79 47 = some (.ddiv, 48, 0, 0, 0, 0) := rfl
theorem i_79_48 : ins 79 48 = some (.goto 4, 51, 52, 0, 0, 0) := rfl
theorem i_79_51 : ins 79 51 = some (.dconst 0, 52, 0, 0, 0, 0) := rfl
theorem i_79_52 : ins 79 52 = some (.dreturn, 53, 0, 0, 0, 0) := rfl
theorem S79_5 {Q : Ou → Prop} {M : Mem} {κ : Kp} (hκ : Rd κ) {x : Nat} (hx : x < 6)  {r_11 : Nat}
    (o1 : Run 58 (0, entL 58 [.ref (19 + 18 * x)], [], M, κ) (.inl (some (.int (nI r_11))), M, κ))
    (o2 : 0 < ((nI r_11) * ((M 1 0) + (M 1 1))) → vf_n64 (FP.ddiv (FP.i2d (M (12 + 18 * x) 4)) (FP.i2d ((nI r_11) * ((M 1 0) + (M 1 1))))))
    (k1 : Q (.inl (some (.double (if 0 < ((nI r_11) * ((M 1 0) + (M 1 1))) then (FP.ddiv (FP.i2d (M (12 + 18 * x) 4)) (FP.i2d ((nI r_11) * ((M 1 0) + (M 1 1))))) else 0))), M, κ))
    : RT 79 (5, [.ref 0, .int (nI x), UU], [], M, κ) Q := by
  refine w_load i_79_5 rfl rfl ?_
  refine w_getR 4 i_79_6 hκ (⟨rfl, by decide⟩ : isOb 0 6) rfl rfl ?_
  refine w_load i_79_9 rfl rfl ?_
  refine w_aaldN (e := x) (19 + 18 * x) i_79_10 hκ (⟨by decide, by decide⟩ : (kd 4 = 22 ∨ kd 4 = 23) ∧ 4 < 180) (by omega) rfl ?_
  refine w_callV (i := _) i_79_11 ⟨by decide, by decide, by decide, rfl⟩ hκ (pl_ob (pl_of (by omega : x < 6))) (av := []) (rest := []) rfl rfl (Nat.le_of_ble_eq_true rfl) (v := some (.int (nI r_11))) (o1) ?_
  refine w_load i_79_14 rfl rfl ?_
  refine w_getR 1 i_79_15 hκ (⟨rfl, by decide⟩ : isOb 0 6) rfl rfl ?_
  refine w_getI (v := (M 1 0)) i_79_18 hκ (⟨rfl, by decide⟩ : isOb 1 2) rfl (rfl) ?_
  refine w_load i_79_21 rfl rfl ?_
  refine w_getR 1 i_79_22 hκ (⟨rfl, by decide⟩ : isOb 0 6) rfl rfl ?_
  refine w_getI (v := (M 1 1)) i_79_25 hκ (⟨rfl, by decide⟩ : isOb 1 2) rfl (rfl) ?_
  refine w_bin (w := ((M 1 0) + (M 1 1))) i_79_28 rfl rfl ?_
  refine w_bin (w := ((nI r_11) * ((M 1 0) + (M 1 1)))) i_79_29 rfl rfl ?_
  refine w_store (l1 := [.ref 0, .int (nI x), .int ((nI r_11) * ((M 1 0) + (M 1 1)))]) i_79_30 rfl (Nat.le_of_ble_eq_true rfl) rfl ?_
  refine w_load i_79_31 rfl rfl ?_
  have K1 : RT 79 (52, [.ref 0, .int (nI x), .int ((nI r_11) * ((M 1 0) + (M 1 1)))], [.double (if 0 < ((nI r_11) * ((M 1 0) + (M 1 1))) then (FP.ddiv (FP.i2d (M (12 + 18 * x) 4)) (FP.i2d ((nI r_11) * ((M 1 0) + (M 1 1))))) else 0)], M, κ) Q := by
    exact w_dret i_79_52 rfl (k1)
  refine w_if0n (0 < ((nI r_11) * ((M 1 0) + (M 1 1)))) i_79_32 cI0_le ?_ ?_
  · intro h2
    refine w_load i_79_35 rfl rfl ?_
    refine w_getR 3 i_79_36 hκ (⟨rfl, by decide⟩ : isOb 0 6) rfl rfl ?_
    refine w_load i_79_39 rfl rfl ?_
    refine w_aaldN (e := x) (12 + 18 * x) i_79_40 hκ (⟨by decide, by decide⟩ : (kd 3 = 22 ∨ kd 3 = 23) ∧ 3 < 180) (by omega) rfl ?_
    refine w_getI (v := (M (12 + 18 * x) 4)) i_79_41 hκ (bl_ob (bl_b (by omega : x < 6))) rfl (rfl) ?_
    refine w_i2d i_79_44 ?_
    refine w_load i_79_45 rfl rfl ?_
    refine w_i2d i_79_46 ?_
    refine w_ddiv i_79_47 (o2 h2) ?_
    refine w_goto i_79_48 ?_
    exact (by first | exact (K1) | (have K9 := K1; simp only [↓if_pos h2] at K9 ⊢; exact (K9)))
  · intro h3
    refine w_dpush i_79_51 ?_
    exact (by first | exact (K1) | (have K9 := K1; simp only [↓if_neg h3] at K9 ⊢; exact (K9)))
theorem fd0 : ∀ a, a < 81 → ∀ b, b < 7 → FP.dmul (FP.i2d (nI a)) (FP.i2d (nI b)) = FP.i2d (nI (a * b)) := by decide +kernel
theorem fd1 : ∀ a, a < 481 → FP.i2d (nI a) &&& 0x7fffffffffffffff ≤ 0x7ff0000000000000 := by decide +kernel
theorem fd2 : ∀ n, n < 11 → ∀ s, s < 481 → 0 < s → FP.ddiv (FP.i2d (nI n)) (FP.i2d (nI s)) &&& 0x7fffffffffffffff ≤ 0x7ff0000000000000 := by decide +kernel
variable {Q : Ou → Prop} {M M0 : Mem} {κ : Kp}
section FL
variable {g : Gs} {mp : Mp} {cf : Bool} {tu : Nat} {tr : Bool} {r : Rs} {M' : Mem} {xx : Int32} {qq : Nat → Pq}
def rwF (q : Pq) : Nat := if 0 < q.2.1 then q.2.1 else q.1
def flS (mp : Mp) (q : Pq) (n : Nat) : UInt64 := if n = 0 then 0 else FP.ddiv (FP.i2d (nI n)) (FP.i2d (nI (rwF q * (mp.1 false + mp.1 true))))
theorem rwF_pos {e : Int32} {n p : Nat} {L : Nat → Int32} {q : Pq} (h : PN M e n L p q) : rwF q ≤ 80 ∧ (rwF q = 0 ↔ n = 0) := by
  obtain ⟨p0, p2, p3, p4, pb, p5, p6, p7, p8, p9⟩ := h
  unfold rwF
  by_cases a : 0 < q.2.1
  · rw [if_pos a]
    have := (p8 a).2
    exact ⟨pb.2.1, by omega, by omega⟩
  · rw [if_neg a]
    refine ⟨pb.1, fun z => ?_, p9⟩
    refine Classical.byContradiction fun y => ?_
    have := (p5 0 (by omega)).2
    omega
theorem F79 (hκ : Rd κ) (hg : GOk g) (hm : MpOk mp) (hI : CI g mp cf tu tr r M) (hq : cf = true → ∀ x, x < gN g → (s1 g).2.2.2.1 x = false → PN M ((s1 g).1 x) ((s1 g).2.2.1 x) (LtO mp ((s1 g).2.2.2.2 x)) (19 + 18 * x) (qq x)) (K1 : cf = false → Q (.inr 1, M, kT κ)) (K2 : cf = true → okX g xx = false → Q (.inr 4, M, kT κ)) (K4 : cf = true → okX g xx = true → Q (.inl (some (.double (flS mp (qq xx.toInt.toNat) ((s1 g).2.2.1 xx.toInt.toNat)))), M, κ)) : RT 79 (0, entL 79 [.ref 0, .int xx], [], M, κ) Q := by
  refine S79_0 hκ (F80 hκ hg hI (fun a => .inr ⟨_, _, _, rfl, K1 a⟩) (fun a b => .inr ⟨_, _, _, rfl, K2 a b⟩) (fun a b => .inl ⟨_, _, _, rfl, ?_⟩))
  obtain ⟨o, o2, h1, h2, h3, h4, h5, h6', h7, h8, h9, ha, hb, hc⟩ := hI
  obtain ⟨q1, q2⟩ := okX_iff.mp b
  have h6 := hg.1
  have d4 := ((hc a).2.2.1 xx.toInt.toNat (by omega)).2.2.2.2.1
  have hs := ((SIv1 hg (hc a).2.1).1 xx.toInt.toNat (by omega)).2.2.2.2.1
  have ex : xx = nI xx.toInt.toNat := (nI_tn q1.1).symm
  have hx6 : xx.toInt.toNat < 6 := by omega
  have hP := hq a xx.toInt.toNat (by omega) q2
  have K4' := K4 a b
  clear K1 K2 K4 hq
  generalize xx.toInt.toNat = x at *
  rw [ex]
  obtain ⟨r1, r2⟩ := rwF_pos hP
  have e58 : (if 0 < M (19 + 18 * x) 2 then M (19 + 18 * x) 2 else M (19 + 18 * x) 0) = nI (rwF (qq x)) := by
    rw [hP.2.1, hP.1]
    have : 0 < nI (qq x).2.1 ↔ 0 < (qq x).2.1 := by
      have := hP.2.2.2.2.1.2.1
      rw [ltI, c0, nI_toInt (by omega)]
      omega
    unfold rwF
    by_cases z : 0 < (qq x).2.1
    · rw [if_pos (this.mpr z), if_pos z]
    · rw [if_neg (fun y => z (this.mp y)), if_neg z]
  have hr := c58 (M := M) hκ (pl_of hx6)
  rw [e58] at hr
  have hu1 := hm.1
  have hu2 := hm.2.1
  have hsl : rwF (qq x) * (mp.1 false + mp.1 true) ≤ 80 * 6 := Nat.mul_le_mul r1 (by omega)
  have eS : nI (rwF (qq x)) * (M 1 0 + M 1 1) = nI (rwF (qq x) * (mp.1 false + mp.1 true)) := by
    rw [h7.1, h7.2.1, nI_add, nI_mul]
  have hpos : 0 < nI (rwF (qq x) * (mp.1 false + mp.1 true)) ↔ ¬ (s1 g).2.2.1 x = 0 := by
    rw [ltI, c0, nI_toInt (by omega)]
    have h0 : rwF (qq x) * (mp.1 false + mp.1 true) = 0 ↔ rwF (qq x) = 0 := by
      rw [Nat.mul_eq_zero]
      omega
    omega
  refine S79_5 hκ hx6 hr (fun z => ?_) ?_
  · rw [eS] at z ⊢
    rw [d4]
    refine fd2 _ (by omega) _ (by omega) ?_
    rw [ltI, c0, nI_toInt (by omega)] at z
    omega
  · rw [eS, d4]
    unfold flS at K4'
    by_cases z : (s1 g).2.2.1 x = 0
    · rw [if_neg (fun y => hpos.mp y z)]
      rw [if_pos z] at K4'
      exact K4'
    · rw [if_pos (hpos.mpr z)]
      rw [if_neg z] at K4'
      exact K4'
theorem F151 (hκ : Rd κ) (hg : GOk g) (hm : MpOk mp) (hI : MI g mp cf tu tr r M) (hmi : cf = true → miss g = false) (hq : cf = true → ∀ x, x < gN g → (s1 g).2.2.2.1 x = false → PN M ((s1 g).1 x) ((s1 g).2.2.1 x) (LtO mp ((s1 g).2.2.2.2 x)) (19 + 18 * x) (qq x)) (K0 : ¬ askC cf (okX g xx) true true = 0 → ∀ M', (∀ x j, x < 134 → M' x j = M x j) → M' 134 0 = nI (askC cf (okX g xx) true true) → MI g mp cf tu tr r M' → Q (.inl (some (.double 0)), M', κ)) (K1 : cf = true → okX g xx = true → ∀ M', (∀ x j, x < 134 → M' x j = M x j) → M' 134 0 = nI 0 → MI g mp cf tu tr r M' → Q (.inl (some (.double (flS mp (qq xx.toInt.toNat) ((s1 g).2.2.1 xx.toInt.toNat)))), M', κ)) : RT 151 (0, entL 151 [.ref 134, .int xx], [], M, κ) Q := by
  have h6 := hg.1
  have hr := c147 (kk := xx) (th := true) (kw := true) hκ hg hI
  have hle : askC cf (okX g xx) true true ≤ 3 := by
    unfold askC
    repeat' split
    all_goals omega
  have hpos : 0 < nI (askC cf (okX g xx) true true) ↔ ¬ askC cf (okX g xx) true true = 0 := by
    rw [ltI, c0, nI_toInt (by omega)]
    omega
  refine S151_0 hκ hr (fun a => K0 (hpos.mp a) _ (fun x j hx => stM_o (by omega)) stM_s (MI_th h6 hI)) (fun a => ?_)
  have a0 : askC cf (okX g xx) true true = 0 := Classical.byContradiction fun z => a (hpos.mpr z)
  have a1 : cf = true ∧ okX g xx = true := by
    revert a0
    unfold askC
    cases cf <;> cases okX g xx <;> decide
  have hI' := MI_th (w := nI (askC cf (okX g xx) true true)) h6 hI
  have K1' := K1 a1.1 a1.2 _ (fun x j hx => stM_o (by omega)) (stM_s.trans (congrArg nI a0)) hI'
  have hl : ∀ x j, x < 134 → stM M 134 0 (nI (askC cf (okX g xx) true true)) x j = M x j := fun x j hx => stM_o (by omega)
  generalize stM M 134 0 (nI (askC cf (okX g xx) true true)) = M1 at hI' K1' hl
  obtain ⟨q1, q2⟩ := okX_iff.mp a1.2
  obtain ⟨m1, m2, m3⟩ := hI'.2.2.2.2 a1.1
  have d4 := (m2 xx.toInt.toNat (by omega)).2.2.2.2.1
  obtain ⟨w1, w2, w3, w4, w5⟩ := m3 xx.toInt.toNat (by omega) q2
  have hs := ((SIv1 hg (hmi a1.1)).1 xx.toInt.toNat (by omega)).2.2.2.2.1
  have hP := hq a1.1 xx.toInt.toNat (by omega) q2
  have ex : xx = nI xx.toInt.toNat := (nI_tn q1.1).symm
  have hx6 : xx.toInt.toNat < 6 := by omega
  clear K0 K1 hr hle hpos a a0 hI a1 hq
  generalize xx.toInt.toNat = x at *
  rw [ex]
  obtain ⟨r1, r2⟩ := rwF_pos hP
  have hu1 := hm.1
  have hu2 := hm.2.1
  have pb := hP.2.2.2.2.1
  have hsl : rwF (qq x) * (mp.1 false + mp.1 true) ≤ 80 * 6 := Nat.mul_le_mul r1 (by omega)
  have eD : FP.dmul (if 0 < (qq x).2.1 then (FP.i2d (nI (qq x).2.1)) else (FP.i2d (nI (qq x).1))) (FP.i2d (nI (mp.1 false + mp.1 true))) = FP.i2d (nI (rwF (qq x) * (mp.1 false + mp.1 true))) := by
    have : (if 0 < (qq x).2.1 then (FP.i2d (nI (qq x).2.1)) else (FP.i2d (nI (qq x).1))) = FP.i2d (nI (rwF (qq x))) := by
      unfold rwF
      split <;> rfl
    rw [this]
    exact fd0 _ (by omega) _ (by omega)
  have h0 : rwF (qq x) * (mp.1 false + mp.1 true) = 0 ↔ rwF (qq x) = 0 := by
    rw [Nat.mul_eq_zero]
    omega
  unfold flS at K1'
  refine S151_19 hκ hx6 hI'.2.1.1 hI'.2.1.2.1 hs pb.2.1 pb.1 d4 (w4.trans ((hl _ _ (by omega)).trans hP.2.1)) (w2.trans ((hl _ _ (by omega)).trans hP.1)) (fun z => ?_) (fun z => ?_) (fun z => ?_) (fun z => ?_)
  · rw [eD]
    exact fd1 _ (by omega)
  · rw [eD]
    exact fd2 _ (by omega) _ (by omega) (by omega)
  · rw [if_pos z] at K1'
    exact K1'
  · rw [eD]
    rw [if_neg z] at K1'
    exact K1'
end FL
end P_58_fill
