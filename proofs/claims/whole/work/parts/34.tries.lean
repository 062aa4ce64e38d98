/-! MODULO: the model tries an interval -/
section P_34_tries
theorem i_134_0 : ins 134 0 = some (.iconst 0, 1, 0, 0, 0, 0) := rfl
theorem i_134_1 : ins 134 1 = some (.istore 5, 3, 5, 0, 0, 0) := rfl
theorem i_134_3 : ins 134 3 = some (.iconst 0, 4, 0, 0, 0, 0) := rfl
theorem i_134_4 : ins 134 4 = some (.istore 6, 6, 6, 0, 0, 0) := rfl
theorem i_134_6 : ins 134 6 = some (.iload 6, 8, 6, 0, 0, 0) := rfl
theorem i_134_8 : ins 134 8 = some (.aload_n 0, 9, 0, 0, 0, 0) := rfl
theorem i_134_9 : ins 134 9 = some (.getfield 78, 12, 7, 26, 0, 0) := rfl
theorem i_134_12 : ins 134 12 = some (.iload_n 1, 13, 1, 0, 0, 0) := rfl
theorem i_134_13 : ins 134 13 = some (.iaload, 14, 0, 0, 0, 0) := rfl
theorem i_134_14 : ins 134 14 = some (.if_icmp .ge 67, 17, 81, 0, 0, 0) := rfl
theorem i_134_17 : ins 134 17 = some (.iload 5, 19, 5, 0, 0, 0) := rfl
theorem i_134_19 : ins 134 19 = some (.aload_n 0, 20, 0, 0, 0, 0) := rfl
theorem i_134_20 : ins 134 20 = some (.getfield 135, 23, 7, 45, 0, 0) := rfl
theorem i_134_23 : ins 134 23 = some (.iload 6, 25, 6, 0, 0, 0) := rfl
theorem i_134_25 : ins 134 25 = some (.iaload, 26, 0, 0, 0, 0) := rfl
theorem i_134_26 : ins 134 26 = some (.ifCond .lt 45, 29, 71, 0, 0, 0) := rfl
theorem i_134_29 : ins 134 29 = some (.aload_n 0, 30, 0, 0, 0, 0) := rfl
theorem i_134_30 : ins 134 30 = some (.getfield 135, 33, 7, 45, 0, 0) := rfl
theorem i_134_33 : ins 134 33 = some (.iload 6, 35, 6, 0, 0, 0) := rfl
theorem i_134_35 : ins 134 35 = some (.iaload, 36, 0, 0, 0, 0) := rfl
theorem i_134_36 : ins 134 36 = some (.iload 4, 38, 4, 0, 0, 0) := rfl
theorem i_134_38 : ins 134 38 = some (.irem, 39, 0, 0, 0, 0) := rfl
theorem i_134_39 : ins 134 39 = some (.iload_n 3, 40, 3, 0, 0, 0) := rfl
theorem i_134_40 : ins 134 40 = some (.if_icmp .ne 31, 43, 71, 0, 0, 0) := rfl
theorem i_134_43 : ins 134 43 = some (.aload_n 0, 44, 0, 0, 0, 0) := rfl
theorem i_134_44 : ins 134 44 = some (.bipush 10, 46, 0, 0, 0, 10) := rfl
theorem i_134_46 : ins 134 46 = some (.iload_n 1, 47, 1, 0, 0, 0) := rfl
theorem i_134_47 : ins 134 47 = some (.imul, 48, 0, 0, 0, 0) := rfl
theorem i_134_48 : ins 134 48 = some (.iload 6, 50, 6, 0, 0, 0) := rfl
theorem i_134_50 : ins 134 50 = some (.iadd, 51, 0, 0, 0, 0) := rfl
theorem i_134_51 : ins 134 51 = some (.invokevirtual 259, 54, 116, 0, 2, 0) := rfl
theorem i_134_54 : ins 134 54 = some (.aload_n 0, 55, 0, 0, 0, 0) := rfl
theorem i_134_55 : ins 134 55 = some (.bipush 10, 57, 0, 0, 0, 10) := rfl
theorem i_134_57 : ins 134 57 = some (.iload_n 1, 58, 1, 0, 0, 0) := rfl
theorem i_134_58 : ins 134 58 = some (.imul, 59, 0, 0, 0, 0) := rfl
theorem i_134_59 : ins 134 59 = some (.iload_n 2, 60, 2, 0, 0, 0) := rfl
theorem i_134_60 : ins 134 60 = some (.iadd, 61, 0, 0, 0, 0) := rfl
theorem i_134_61 : ins 134 61 = some (.invokevirtual 259, 64, 116, 0, 2, 0) := rfl
theorem i_134_64 : ins 134 64 = some (.if_icmp .ne 7, 67, 71, 0, 0, 0) := rfl
theorem i_134_67 : ins 134 67 = some (.iconst 1, 68, 0, 0, 0, 1) := rfl
theorem i_134_68 : ins 134 68 = some (.goto 4, 71, 72, 0, 0, 0) := rfl
theorem i_134_71 : ins 134 71 = some (.iconst 0, 72, 0, 0, 0, 0) := rfl
theorem i_134_72 : ins 134 72 = some (.iadd, 73, 0, 0, 0, 0) := rfl
theorem i_134_73 : ins 134 73 = some (.istore 5, 75, 5, 0, 0, 0) := rfl
theorem i_134_75 : ins 134 75 = some (.iinc 6 1, 78, 6, 0, 0, 1) := rfl
theorem i_134_78 : ins 134 78 = some (.goto (-72), 81, 6, 0, 0, 0) := rfl
theorem i_134_81 : ins 134 81 = some (.iload 5, 83, 5, 0, 0, 0) := rfl
theorem i_134_83 : ins 134 83 = some (.ireturn, 84, 0, 0, 0, 0) := rfl
theorem S134_0 {Q : Ou → Prop} {M : Mem} {κ : Kp} (hκ : Rd κ) {x n k j : Nat} (hx : x < 6) (hn : n ≤ 10) (hk : k < n) (hj : j ≤ n) (hc : M 151 x = nI n) {O : Op} (hO : ∀ f, f < 6 → ∀ j, j < n → M (152 + f) (10 * x + j) = O f j) {row : Int32} {ii : Int32}
    (k1 : RT 134 (6, [.ref 134, .int (nI x), .int (nI k), .int row, .int ii, .int (nI 0), .int (nI 0)], [], M, κ) Q)
    : RT 134 (0, [.ref 134, .int (nI x), .int (nI k), .int row, .int ii, UU, UU], [], M, κ) Q := by
  refine w_push i_134_0 rfl ?_
  refine w_store (l1 := [.ref 134, .int (nI x), .int (nI k), .int row, .int ii, .int 0, UU]) i_134_1 rfl (Nat.le_of_ble_eq_true rfl) rfl ?_
  refine w_push i_134_3 rfl ?_
  refine w_store (l1 := [.ref 134, .int (nI x), .int (nI k), .int row, .int ii, .int 0, .int 0]) i_134_4 rfl (Nat.le_of_ble_eq_true rfl) rfl ?_
  exact (k1)
theorem S134_6 {Q : Ou → Prop} {M : Mem} {κ : Kp} (hκ : Rd κ) {x n k j : Nat} (hx : x < 6) (hn : n ≤ 10) (hk : k < n) (hj : j ≤ n) (hc : M 151 x = nI n) {O : Op} (hO : ∀ f, f < 6 → ∀ j, j < n → M (152 + f) (10 * x + j) = O f j) {row : Int32} {ii : Int32} {us : Nat} (b_us : us ≤ 100000)
    (o1 : j < n → ¬ ((M 170 j) < 0) → ¬ ii = 0)
    (k1 : j < n → RT 134 (6, [.ref 134, .int (nI x), .int (nI k), .int row, .int ii, .int (nI (us + (if (M 170 j) < 0 then 0 else (if (rm (M 170 j) ii) = row then (if (bI (isP (O 0 j))) = (bI (isP (O 0 k))) then 1 else 0) else 0)))), .int (nI (j + 1))], [], M, κ) Q)
    (k2 : ¬ (j < n) → Q (.inl (some (.int (nI us))), M, κ))
    : RT 134 (6, [.ref 134, .int (nI x), .int (nI k), .int row, .int ii, .int (nI us), .int (nI j)], [], M, κ) Q := by
  refine w_load i_134_6 rfl rfl ?_
  refine w_load i_134_8 rfl rfl ?_
  refine w_getR 151 i_134_9 hκ (⟨rfl, by decide⟩ : isOb 134 7) rfl rfl ?_
  refine w_load i_134_12 rfl rfl ?_
  refine w_ialdN (e := x) (v := (nI n)) i_134_13 hκ (⟨rfl, rfl, by decide⟩ : isAr 151 6) (by omega) (by decide) (hc) ?_
  refine w_if2n (j < n) i_134_14 (cN_ge (a := j) (b := n) (by omega) (by omega)) ?_ ?_
  · intro h1
    refine w_load i_134_17 rfl rfl ?_
    refine w_load i_134_19 rfl rfl ?_
    refine w_getR 170 i_134_20 hκ (⟨rfl, by decide⟩ : isOb 134 7) rfl rfl ?_
    refine w_load i_134_23 rfl rfl ?_
    refine w_ialdN (e := j) (v := (M 170 j)) i_134_25 hκ (⟨rfl, rfl, by decide⟩ : isAr 170 10) (by omega) (by decide) (rfl) ?_
    have K2 : RT 134 (72, [.ref 134, .int (nI x), .int (nI k), .int row, .int ii, .int (nI us), .int (nI j)], [.int (nI (if (M 170 j) < 0 then 0 else (if (rm (M 170 j) ii) = row then (if (bI (isP (O 0 j))) = (bI (isP (O 0 k))) then 1 else 0) else 0))), .int (nI us)], M, κ) Q := by
      refine w_bin (w := (nI (us + (if (M 170 j) < 0 then 0 else (if (rm (M 170 j) ii) = row then (if (bI (isP (O 0 j))) = (bI (isP (O 0 k))) then 1 else 0) else 0))))) i_134_72 rfl (nI_add us (if (M 170 j) < 0 then 0 else (if (rm (M 170 j) ii) = row then (if (bI (isP (O 0 j))) = (bI (isP (O 0 k))) then 1 else 0) else 0))) ?_
      refine w_store (l1 := [.ref 134, .int (nI x), .int (nI k), .int row, .int ii, .int (nI (us + (if (M 170 j) < 0 then 0 else (if (rm (M 170 j) ii) = row then (if (bI (isP (O 0 j))) = (bI (isP (O 0 k))) then 1 else 0) else 0)))), .int (nI j)]) i_134_73 rfl (Nat.le_of_ble_eq_true rfl) rfl ?_
      refine w_iincN (n := j) (l1 := [.ref 134, .int (nI x), .int (nI k), .int row, .int ii, .int (nI (us + (if (M 170 j) < 0 then 0 else (if (rm (M 170 j) ii) = row then (if (bI (isP (O 0 j))) = (bI (isP (O 0 k))) then 1 else 0) else 0)))), .int (nI (j + 1))]) 1 i_134_75 rfl rfl ?_
      refine w_goto i_134_78 ?_
      exact (k1 h1)
    refine w_if0 ((M 170 j) < 0) i_134_26 cI0_lt ?_ ?_
    · intro h3
      refine w_push i_134_71 rfl ?_
      exact (by first | exact (K2) | (have K9 := K2; simp only [↓if_pos h3] at K9 ⊢; exact (K9)))
    · intro h4
      refine w_load i_134_29 rfl rfl ?_
      refine w_getR 170 i_134_30 hκ (⟨rfl, by decide⟩ : isOb 134 7) rfl rfl ?_
      refine w_load i_134_33 rfl rfl ?_
      refine w_ialdN (e := j) (v := (M 170 j)) i_134_35 hκ (⟨rfl, rfl, by decide⟩ : isAr 170 10) (by omega) (by decide) (rfl) ?_
      refine w_load i_134_36 rfl rfl ?_
      refine w_div (w := (rm (M 170 j) ii)) i_134_38 rfl (o1 h1 h4) rfl ?_
      refine w_load i_134_39 rfl rfl ?_
      refine w_if2n ((rm (M 170 j) ii) = row) i_134_40 cI_ne ?_ ?_
      · intro h5
        refine w_load i_134_43 rfl rfl ?_
        refine w_push i_134_44 rfl ?_
        refine w_load i_134_46 rfl rfl ?_
        refine w_bin (w := (nI (10 * x))) i_134_47 rfl (nI_mul 10 x) ?_
        refine w_load i_134_48 rfl rfl ?_
        refine w_bin (w := (nI ((10 * x) + j))) i_134_50 rfl (nI_add (10 * x) j) ?_
        refine w_callV (i := _) i_134_51 ⟨by decide, by decide, by decide, rfl⟩ hκ (⟨rfl, by decide⟩ : isOb 134 7) (av := [.int (nI ((10 * x) + j))]) (rest := [.int (nI us)]) rfl rfl (Nat.le_of_ble_eq_true rfl) (v := some (.int (bI (isP (O 0 j))))) (c116 hκ (by omega) (hO 0 (by decide) j (by omega))) ?_
        refine w_load i_134_54 rfl rfl ?_
        refine w_push i_134_55 rfl ?_
        refine w_load i_134_57 rfl rfl ?_
        refine w_bin (w := (nI (10 * x))) i_134_58 rfl (nI_mul 10 x) ?_
        refine w_load i_134_59 rfl rfl ?_
        refine w_bin (w := (nI ((10 * x) + k))) i_134_60 rfl (nI_add (10 * x) k) ?_
        refine w_callV (i := _) i_134_61 ⟨by decide, by decide, by decide, rfl⟩ hκ (⟨rfl, by decide⟩ : isOb 134 7) (av := [.int (nI ((10 * x) + k))]) (rest := [.int (bI (isP (O 0 j))), .int (nI us)]) rfl rfl (Nat.le_of_ble_eq_true rfl) (v := some (.int (bI (isP (O 0 k))))) (c116 hκ (by omega) (hO 0 (by decide) k (by omega))) ?_
        refine w_if2n ((bI (isP (O 0 j))) = (bI (isP (O 0 k)))) i_134_64 cI_ne ?_ ?_
        · intro h6
          refine w_push i_134_67 rfl ?_
          refine w_goto i_134_68 ?_
          exact (by first | exact (K2) | (have K9 := K2; simp only [↓if_neg h4, ↓if_pos h5, ↓if_pos h6] at K9 ⊢; exact (K9)))
        · intro h7
          refine w_push i_134_71 rfl ?_
          exact (by first | exact (K2) | (have K9 := K2; simp only [↓if_neg h4, ↓if_pos h5, ↓if_neg h7] at K9 ⊢; exact (K9)))
      · intro h8
        refine w_push i_134_71 rfl ?_
        exact (by first | exact (K2) | (have K9 := K2; simp only [↓if_neg h4, ↓if_neg h8] at K9 ⊢; exact (K9)))
  · intro h9
    refine w_load i_134_81 rfl rfl ?_
    exact w_iret i_134_83 (.inl rfl) (k2 h9)
theorem i_135_0 : ins 135 0 = some (.iconst (-1), 1, 0, 0, 0, (-1)) := rfl
theorem i_135_1 : ins 135 1 = some (.istore 5, 3, 5, 0, 0, 0) := rfl
theorem i_135_3 : ins 135 3 = some (.iconst 0, 4, 0, 0, 0, 0) := rfl
theorem i_135_4 : ins 135 4 = some (.istore 6, 6, 6, 0, 0, 0) := rfl
theorem i_135_6 : ins 135 6 = some (.iload 6, 8, 6, 0, 0, 0) := rfl
theorem i_135_8 : ins 135 8 = some (.aload_n 0, 9, 0, 0, 0, 0) := rfl
theorem i_135_9 : ins 135 9 = some (.getfield 78, 12, 7, 26, 0, 0) := rfl
theorem i_135_12 : ins 135 12 = some (.iload_n 1, 13, 1, 0, 0, 0) := rfl
theorem i_135_13 : ins 135 13 = some (.iaload, 14, 0, 0, 0, 0) := rfl
theorem i_135_14 : ins 135 14 = some (.if_icmp .ge 95, 17, 109, 0, 0, 0) := rfl
theorem i_135_17 : ins 135 17 = some (.aload_n 0, 18, 0, 0, 0, 0) := rfl
theorem i_135_18 : ins 135 18 = some (.getfield 135, 21, 7, 45, 0, 0) := rfl
theorem i_135_21 : ins 135 21 = some (.iload 6, 23, 6, 0, 0, 0) := rfl
theorem i_135_23 : ins 135 23 = some (.iaload, 24, 0, 0, 0, 0) := rfl
theorem i_135_24 : ins 135 24 = some (.ifCond .lt 45, 27, 69, 0, 0, 0) := rfl
theorem i_135_27 : ins 135 27 = some (.aload_n 0, 28, 0, 0, 0, 0) := rfl
theorem i_135_28 : ins 135 28 = some (.getfield 135, 31, 7, 45, 0, 0) := rfl
theorem i_135_31 : ins 135 31 = some (.iload 6, 33, 6, 0, 0, 0) := rfl
theorem i_135_33 : ins 135 33 = some (.iaload, 34, 0, 0, 0, 0) := rfl
theorem i_135_34 : ins 135 34 = some (.iload 4, 36, 4, 0, 0, 0) := rfl
theorem i_135_36 : ins 135 36 = some (.irem, 37, 0, 0, 0, 0) := rfl
theorem i_135_37 : ins 135 37 = some (.iload_n 3, 38, 3, 0, 0, 0) := rfl
theorem i_135_38 : ins 135 38 = some (.if_icmp .ne 31, 41, 69, 0, 0, 0) := rfl
theorem i_135_41 : ins 135 41 = some (.aload_n 0, 42, 0, 0, 0, 0) := rfl
theorem i_135_42 : ins 135 42 = some (.bipush 10, 44, 0, 0, 0, 10) := rfl
theorem i_135_44 : ins 135 44 = some (.iload_n 1, 45, 1, 0, 0, 0) := rfl
theorem i_135_45 : ins 135 45 = some (.imul, 46, 0, 0, 0, 0) := rfl
theorem i_135_46 : ins 135 46 = some (.iload 6, 48, 6, 0, 0, 0) := rfl
theorem i_135_48 : ins 135 48 = some (.iadd, 49, 0, 0, 0, 0) := rfl
theorem i_135_49 : ins 135 49 = some (.invokevirtual 259, 52, 116, 0, 2, 0) := rfl
theorem i_135_52 : ins 135 52 = some (.aload_n 0, 53, 0, 0, 0, 0) := rfl
theorem i_135_53 : ins 135 53 = some (.bipush 10, 55, 0, 0, 0, 10) := rfl
theorem i_135_55 : ins 135 55 = some (.iload_n 1, 56, 1, 0, 0, 0) := rfl
theorem i_135_56 : ins 135 56 = some (.imul, 57, 0, 0, 0, 0) := rfl
theorem i_135_57 : ins 135 57 = some (.iload_n 2, 58, 2, 0, 0, 0) := rfl
theorem i_135_58 : ins 135 58 = some (.iadd, 59, 0, 0, 0, 0) := rfl
theorem i_135_59 : ins 135 59 = some (.invokevirtual 259, 62, 116, 0, 2, 0) := rfl
theorem i_135_62 : ins 135 62 = some (.if_icmp .ne 7, 65, 69, 0, 0, 0) := rfl
theorem i_135_65 : ins 135 65 = some (.iconst 1, 66, 0, 0, 0, 1) := rfl
theorem i_135_66 : ins 135 66 = some (.goto 4, 69, 70, 0, 0, 0) := rfl
theorem i_135_69 : ins 135 69 = some (.iconst 0, 70, 0, 0, 0, 0) := rfl
theorem i_135_70 : ins 135 70 = some (.istore 7, 72, 7, 0, 0, 0) := rfl
theorem i_135_72 : ins 135 72 = some (.iload 7, 74, 7, 0, 0, 0) := rfl
theorem i_135_74 : ins 135 74 = some (.ifCond .eq 29, 77, 103, 0, 0, 0) := rfl
theorem i_135_77 : ins 135 77 = some (.iload 5, 79, 5, 0, 0, 0) := rfl
theorem i_135_79 : ins 135 79 = some (.ifCond .lt 20, 82, 99, 0, 0, 0) := rfl
theorem i_135_82 : ins 135 82 = some (.aload_n 0, 83, 0, 0, 0, 0) := rfl
theorem i_135_83 : ins 135 83 = some (.getfield 132, 86, 7, 44, 0, 0) := rfl
theorem i_135_86 : ins 135 86 = some (.iload 6, 88, 6, 0, 0, 0) := rfl
theorem i_135_88 : ins 135 88 = some (.iaload, 89, 0, 0, 0, 0) := rfl
theorem i_135_89 : ins 135 89 = some (.aload_n 0, 90, 0, 0, 0, 0) := rfl
theorem i_135_90 : ins 135 90 = some (.getfield 132, 93, 7, 44, 0, 0) := rfl
theorem i_135_93 : ins 135 93 = some (.iload 5, 95, 5, 0, 0, 0) := rfl
theorem i_135_95 : ins 135 95 = some (.iaload, 96, 0, 0, 0, 0) := rfl
theorem i_135_96 : ins 135 96 = some (.if_icmp .gt 7, 99, 103, 0, 0, 0) := rfl
theorem i_135_99 : ins 135 99 = some (.iload 6, 101, 6, 0, 0, 0) := rfl
theorem i_135_101 : ins 135 101 = some (.istore 5, 103, 5, 0, 0, 0) := rfl
theorem i_135_103 : ins 135 103 = some (.iinc 6 1, 106, 6, 0, 0, 1) := rfl
theorem i_135_106 : ins 135 106 = some (.goto (-100), 109, 6, 0, 0, 0) := rfl
theorem i_135_109 : ins 135 109 = some (.iload 5, 111, 5, 0, 0, 0) := rfl
theorem i_135_111 : ins 135 111 = some (.ifCond .lt 11, 114, 122, 0, 0, 0) := rfl
theorem i_135_114 : ins 135 114 = some (.aload_n 0, 115, 0, 0, 0, 0) := rfl
theorem i_135_115 : ins 135 115 = some (.getfield 135, 118, 7, 45, 0, 0) := rfl
theorem i_135_118 : ins 135 118 = some (.iload 5, 120, 5, 0, 0, 0) := rfl
theorem i_135_120 : ins 135 120 = some (.iconst (-1), 121, 0, 0, 0, (-1)) := rfl
theorem i_135_121 : ins 135 121 = some (.iastore, 122, 0, 0, 0, 0) := rfl
theorem i_135_122 : ins 135 122 = some (.return_, 123, 0, 0, 0, 0) := rfl
theorem S135_0 {Q : Ou → Prop} {M : Mem} {κ : Kp} (hκ : Rd κ) {x n k j : Nat} (hx : x < 6) (hn : n ≤ 10) (hk : k < n) (hj : j ≤ n) (hc : M 151 x = nI n) {O : Op} (hO : ∀ f, f < 6 → ∀ j, j < n → M (152 + f) (10 * x + j) = O f j) {row : Int32} {ii : Int32}
    (k1 : RT 135 (6, [.ref 134, .int (nI x), .int (nI k), .int row, .int ii, .int (-1), .int (nI 0), UU], [], M, κ) Q)
    : RT 135 (0, [.ref 134, .int (nI x), .int (nI k), .int row, .int ii, UU, UU, UU], [], M, κ) Q := by
  refine w_push i_135_0 rfl ?_
  refine w_store (l1 := [.ref 134, .int (nI x), .int (nI k), .int row, .int ii, .int (-1), UU, UU]) i_135_1 rfl (Nat.le_of_ble_eq_true rfl) rfl ?_
  refine w_push i_135_3 rfl ?_
  refine w_store (l1 := [.ref 134, .int (nI x), .int (nI k), .int row, .int ii, .int (-1), .int 0, UU]) i_135_4 rfl (Nat.le_of_ble_eq_true rfl) rfl ?_
  exact (k1)
theorem S135_6 {Q : Ou → Prop} {M : Mem} {κ : Kp} (hκ : Rd κ) {x n k j : Nat} (hx : x < 6) (hn : n ≤ 10) (hk : k < n) (hj : j ≤ n) (hc : M 151 x = nI n) {O : Op} (hO : ∀ f, f < 6 → ∀ j, j < n → M (152 + f) (10 * x + j) = O f j) {row : Int32} {ii : Int32} {wo : Int32}
    (o1 : j < n → (if (M 170 j) < 0 then false else (if (rm (M 170 j) ii) = row then (if (bI (isP (O 0 j))) = (bI (isP (O 0 k))) then true else false) else false)) = true → ¬ (wo < 0) → vp_in wo 10)
    (o2 : j < n → ¬ ((M 170 j) < 0) → ¬ ii = 0)
    (o3 : ¬ (j < n) → ¬ (wo < 0) → vp_in wo 10)
    (k1 : j < n → RT 135 (6, [.ref 134, .int (nI x), .int (nI k), .int row, .int ii, .int (if (if (M 170 j) < 0 then false else (if (rm (M 170 j) ii) = row then (if (bI (isP (O 0 j))) = (bI (isP (O 0 k))) then true else false) else false)) = true then (if wo < 0 then (nI j) else (if (M 169 wo.toNatClampNeg) < (M 169 j) then wo else (nI j))) else wo), .int (nI (j + 1)), UU], [], M, κ) Q)
    (k2 : ¬ (j < n) → Q (.inl none, (if wo < 0 then M else (stM M 170 wo.toNatClampNeg (-1))), κ))
    : RT 135 (6, [.ref 134, .int (nI x), .int (nI k), .int row, .int ii, .int wo, .int (nI j), UU], [], M, κ) Q := by
  refine w_load i_135_6 rfl rfl ?_
  refine w_load i_135_8 rfl rfl ?_
  refine w_getR 151 i_135_9 hκ (⟨rfl, by decide⟩ : isOb 134 7) rfl rfl ?_
  refine w_load i_135_12 rfl rfl ?_
  refine w_ialdN (e := x) (v := (nI n)) i_135_13 hκ (⟨rfl, rfl, by decide⟩ : isAr 151 6) (by omega) (by decide) (hc) ?_
  refine w_if2n (j < n) i_135_14 (cN_ge (a := j) (b := n) (by omega) (by omega)) ?_ ?_
  · intro h1
    refine w_load i_135_17 rfl rfl ?_
    refine w_getR 170 i_135_18 hκ (⟨rfl, by decide⟩ : isOb 134 7) rfl rfl ?_
    refine w_load i_135_21 rfl rfl ?_
    refine w_ialdN (e := j) (v := (M 170 j)) i_135_23 hκ (⟨rfl, rfl, by decide⟩ : isAr 170 10) (by omega) (by decide) (rfl) ?_
    have K2 : RT 135 (70, [.ref 134, .int (nI x), .int (nI k), .int row, .int ii, .int wo, .int (nI j), UU], [.int (bI (if (M 170 j) < 0 then false else (if (rm (M 170 j) ii) = row then (if (bI (isP (O 0 j))) = (bI (isP (O 0 k))) then true else false) else false)))], M, κ) Q := by
      refine w_store (l1 := [.ref 134, .int (nI x), .int (nI k), .int row, .int ii, .int wo, .int (nI j), .int (bI (if (M 170 j) < 0 then false else (if (rm (M 170 j) ii) = row then (if (bI (isP (O 0 j))) = (bI (isP (O 0 k))) then true else false) else false)))]) i_135_70 rfl (Nat.le_of_ble_eq_true rfl) rfl ?_
      refine w_load i_135_72 rfl rfl ?_
      have K3 : RT 135 (103, [.ref 134, .int (nI x), .int (nI k), .int row, .int ii, .int (if (if (M 170 j) < 0 then false else (if (rm (M 170 j) ii) = row then (if (bI (isP (O 0 j))) = (bI (isP (O 0 k))) then true else false) else false)) = true then (if wo < 0 then (nI j) else (if (M 169 wo.toNatClampNeg) < (M 169 j) then wo else (nI j))) else wo), .int (nI j), .int (bI (if (M 170 j) < 0 then false else (if (rm (M 170 j) ii) = row then (if (bI (isP (O 0 j))) = (bI (isP (O 0 k))) then true else false) else false)))], [], M, κ) Q := by
        refine w_iincN (n := j) (l1 := [.ref 134, .int (nI x), .int (nI k), .int row, .int ii, .int (if (if (M 170 j) < 0 then false else (if (rm (M 170 j) ii) = row then (if (bI (isP (O 0 j))) = (bI (isP (O 0 k))) then true else false) else false)) = true then (if wo < 0 then (nI j) else (if (M 169 wo.toNatClampNeg) < (M 169 j) then wo else (nI j))) else wo), .int (nI (j + 1)), .int (bI (if (M 170 j) < 0 then false else (if (rm (M 170 j) ii) = row then (if (bI (isP (O 0 j))) = (bI (isP (O 0 k))) then true else false) else false)))]) 1 i_135_103 rfl rfl ?_
        refine w_goto i_135_106 ?_
        exact w_weak (lle_s (lle_s (lle_s (lle_s (lle_s (lle_s (lle_s (lle_u lle_n)))))))) (k1 h1)
      refine w_if0n ((if (M 170 j) < 0 then false else (if (rm (M 170 j) ii) = row then (if (bI (isP (O 0 j))) = (bI (isP (O 0 k))) then true else false) else false)) = true) i_135_74 cB_eq ?_ ?_
      · intro h4
        refine w_load i_135_77 rfl rfl ?_
        refine w_if0 (wo < 0) i_135_79 cI0_lt ?_ ?_
        · intro h5
          refine w_load i_135_99 rfl rfl ?_
          refine w_store (l1 := [.ref 134, .int (nI x), .int (nI k), .int row, .int ii, .int (nI j), .int (nI j), .int (bI (if (M 170 j) < 0 then false else (if (rm (M 170 j) ii) = row then (if (bI (isP (O 0 j))) = (bI (isP (O 0 k))) then true else false) else false)))]) i_135_101 rfl (Nat.le_of_ble_eq_true rfl) rfl ?_
          exact (by first | exact (K3) | (have K9 := K3; simp only [↓if_pos h4, ↓if_pos h5] at K9 ⊢; exact (K9)))
        · intro h6
          refine w_load i_135_82 rfl rfl ?_
          refine w_getR 169 i_135_83 hκ (⟨rfl, by decide⟩ : isOb 134 7) rfl rfl ?_
          refine w_load i_135_86 rfl rfl ?_
          refine w_ialdN (e := j) (v := (M 169 j)) i_135_88 hκ (⟨rfl, rfl, by decide⟩ : isAr 169 10) (by omega) (by decide) (rfl) ?_
          refine w_load i_135_89 rfl rfl ?_
          refine w_getR 169 i_135_90 hκ (⟨rfl, by decide⟩ : isOb 134 7) rfl rfl ?_
          refine w_load i_135_93 rfl rfl ?_
          refine w_iald (v := (M 169 wo.toNatClampNeg)) i_135_95 hκ (⟨rfl, rfl, by decide⟩ : isAr 169 10) (o1 h1 h4 h6) (rfl) ?_
          refine w_if2 ((M 169 wo.toNatClampNeg) < (M 169 j)) i_135_96 cI_gt ?_ ?_
          · intro h7
            exact (by first | exact (K3) | (have K9 := K3; simp only [↓if_pos h4, ↓if_neg h6, ↓if_pos h7] at K9 ⊢; exact (K9)))
          · intro h8
            refine w_load i_135_99 rfl rfl ?_
            refine w_store (l1 := [.ref 134, .int (nI x), .int (nI k), .int row, .int ii, .int (nI j), .int (nI j), .int (bI (if (M 170 j) < 0 then false else (if (rm (M 170 j) ii) = row then (if (bI (isP (O 0 j))) = (bI (isP (O 0 k))) then true else false) else false)))]) i_135_101 rfl (Nat.le_of_ble_eq_true rfl) rfl ?_
            exact (by first | exact (K3) | (have K9 := K3; simp only [↓if_pos h4, ↓if_neg h6, ↓if_neg h8] at K9 ⊢; exact (K9)))
      · intro h9
        exact (by first | exact (K3) | (have K9 := K3; simp only [↓if_neg h9] at K9 ⊢; exact (K9)))
    refine w_if0 ((M 170 j) < 0) i_135_24 cI0_lt ?_ ?_
    · intro h10
      refine w_push i_135_69 rfl ?_
      exact (by first | exact (K2) | (have K9 := K2; simp only [↓if_pos h10] at K9 ⊢; exact (K9)))
    · intro h11
      refine w_load i_135_27 rfl rfl ?_
      refine w_getR 170 i_135_28 hκ (⟨rfl, by decide⟩ : isOb 134 7) rfl rfl ?_
      refine w_load i_135_31 rfl rfl ?_
      refine w_ialdN (e := j) (v := (M 170 j)) i_135_33 hκ (⟨rfl, rfl, by decide⟩ : isAr 170 10) (by omega) (by decide) (rfl) ?_
      refine w_load i_135_34 rfl rfl ?_
      refine w_div (w := (rm (M 170 j) ii)) i_135_36 rfl (o2 h1 h11) rfl ?_
      refine w_load i_135_37 rfl rfl ?_
      refine w_if2n ((rm (M 170 j) ii) = row) i_135_38 cI_ne ?_ ?_
      · intro h12
        refine w_load i_135_41 rfl rfl ?_
        refine w_push i_135_42 rfl ?_
        refine w_load i_135_44 rfl rfl ?_
        refine w_bin (w := (nI (10 * x))) i_135_45 rfl (nI_mul 10 x) ?_
        refine w_load i_135_46 rfl rfl ?_
        refine w_bin (w := (nI ((10 * x) + j))) i_135_48 rfl (nI_add (10 * x) j) ?_
        refine w_callV (i := _) i_135_49 ⟨by decide, by decide, by decide, rfl⟩ hκ (⟨rfl, by decide⟩ : isOb 134 7) (av := [.int (nI ((10 * x) + j))]) (rest := []) rfl rfl (Nat.le_of_ble_eq_true rfl) (v := some (.int (bI (isP (O 0 j))))) (c116 hκ (by omega) (hO 0 (by decide) j (by omega))) ?_
        refine w_load i_135_52 rfl rfl ?_
        refine w_push i_135_53 rfl ?_
        refine w_load i_135_55 rfl rfl ?_
        refine w_bin (w := (nI (10 * x))) i_135_56 rfl (nI_mul 10 x) ?_
        refine w_load i_135_57 rfl rfl ?_
        refine w_bin (w := (nI ((10 * x) + k))) i_135_58 rfl (nI_add (10 * x) k) ?_
        refine w_callV (i := _) i_135_59 ⟨by decide, by decide, by decide, rfl⟩ hκ (⟨rfl, by decide⟩ : isOb 134 7) (av := [.int (nI ((10 * x) + k))]) (rest := [.int (bI (isP (O 0 j)))]) rfl rfl (Nat.le_of_ble_eq_true rfl) (v := some (.int (bI (isP (O 0 k))))) (c116 hκ (by omega) (hO 0 (by decide) k (by omega))) ?_
        refine w_if2n ((bI (isP (O 0 j))) = (bI (isP (O 0 k)))) i_135_62 cI_ne ?_ ?_
        · intro h13
          refine w_push i_135_65 rfl ?_
          refine w_goto i_135_66 ?_
          exact (by first | exact (K2) | (have K9 := K2; simp only [↓if_neg h11, ↓if_pos h12, ↓if_pos h13] at K9 ⊢; exact (K9)))
        · intro h14
          refine w_push i_135_69 rfl ?_
          exact (by first | exact (K2) | (have K9 := K2; simp only [↓if_neg h11, ↓if_pos h12, ↓if_neg h14] at K9 ⊢; exact (K9)))
      · intro h15
        refine w_push i_135_69 rfl ?_
        exact (by first | exact (K2) | (have K9 := K2; simp only [↓if_neg h11, ↓if_neg h15] at K9 ⊢; exact (K9)))
  · intro h16
    refine w_load i_135_109 rfl rfl ?_
    have K17 : RT 135 (122, [.ref 134, .int (nI x), .int (nI k), .int row, .int ii, .int wo, .int (nI j), UU], [], (if wo < 0 then M else (stM M 170 wo.toNatClampNeg (-1))), κ) Q := by
      exact w_vret i_135_122 rfl (k2 h16)
    refine w_if0 (wo < 0) i_135_111 cI0_lt ?_ ?_
    · intro h18
      exact (by first | exact (K17) | (have K9 := K17; simp only [↓if_pos h18] at K9 ⊢; exact (K9)))
    · intro h19
      refine w_load i_135_114 rfl rfl ?_
      refine w_getR 170 i_135_115 hκ (⟨rfl, by decide⟩ : isOb 134 7) rfl rfl ?_
      refine w_load i_135_118 rfl rfl ?_
      refine w_push i_135_120 rfl ?_
      refine w_iast i_135_121 hκ (⟨rfl, rfl, by decide⟩ : isAr 170 10) (o3 h16 h19) ?_
      exact (by first | exact (K17) | (have K9 := K17; simp only [↓if_neg h19] at K9 ⊢; exact (K9)))
theorem i_137_0 : ins 137 0 = some (.iconst 0, 1, 0, 0, 0, 0) := rfl
theorem i_137_1 : ins 137 1 = some (.istore 4, 3, 4, 0, 0, 0) := rfl
theorem i_137_3 : ins 137 3 = some (.iconst 0, 4, 0, 0, 0, 0) := rfl
theorem i_137_4 : ins 137 4 = some (.istore 5, 6, 5, 0, 0, 0) := rfl
theorem S137_0 {Q : Ou → Prop} {M : Mem} {κ : Kp} (hκ : Rd κ) {x k : Nat} (hx : x < 6) (hk : k < 10) {ii : Nat} (b_ii : ii ≤ 100000)
    (k1 : RT 137 (6, [.ref 134, .int (nI x), .int (nI k), .int (nI ii), .int 0, .int (nI 0), UU], [], M, κ) Q)
    : RT 137 (0, [.ref 134, .int (nI x), .int (nI k), .int (nI ii), UU, UU, UU], [], M, κ) Q := by
  refine w_push i_137_0 rfl ?_
  refine w_store (l1 := [.ref 134, .int (nI x), .int (nI k), .int (nI ii), .int 0, UU, UU]) i_137_1 rfl (Nat.le_of_ble_eq_true rfl) rfl ?_
  refine w_push i_137_3 rfl ?_
  refine w_store (l1 := [.ref 134, .int (nI x), .int (nI k), .int (nI ii), .int 0, .int 0, UU]) i_137_4 rfl (Nat.le_of_ble_eq_true rfl) rfl ?_
  exact (k1)
theorem i_137_6 : ins 137 6 = some (.iload 5, 8, 5, 0, 0, 0) := rfl
theorem i_137_8 : ins 137 8 = some (.aload_n 0, 9, 0, 0, 0, 0) := rfl
theorem i_137_9 : ins 137 9 = some (.getfield 78, 12, 7, 26, 0, 0) := rfl
theorem i_137_12 : ins 137 12 = some (.iload_n 1, 13, 1, 0, 0, 0) := rfl
theorem i_137_13 : ins 137 13 = some (.iaload, 14, 0, 0, 0, 0) := rfl
theorem i_137_14 : ins 137 14 = some (.if_icmp .ge 56, 17, 70, 0, 0, 0) := rfl
theorem i_137_17 : ins 137 17 = some (.aload_n 0, 18, 0, 0, 0, 0) := rfl
theorem i_137_18 : ins 137 18 = some (.getfield 135, 21, 7, 45, 0, 0) := rfl
theorem i_137_21 : ins 137 21 = some (.iload 5, 23, 5, 0, 0, 0) := rfl
theorem i_137_23 : ins 137 23 = some (.iaload, 24, 0, 0, 0, 0) := rfl
theorem i_137_24 : ins 137 24 = some (.ifCond .lt 40, 27, 64, 0, 0, 0) := rfl
theorem i_137_27 : ins 137 27 = some (.aload_n 0, 28, 0, 0, 0, 0) := rfl
theorem i_137_28 : ins 137 28 = some (.iload 5, 30, 5, 0, 0, 0) := rfl
theorem i_137_30 : ins 137 30 = some (.iload_n 2, 31, 2, 0, 0, 0) := rfl
theorem i_137_31 : ins 137 31 = some (.iload_n 3, 32, 3, 0, 0, 0) := rfl
theorem i_137_32 : ins 137 32 = some (.invokevirtual 256, 35, 127, 0, 4, 0) := rfl
theorem i_137_35 : ins 137 35 = some (.ldc 222, 37, 222, 0, 0, (-100000)) := rfl
theorem i_137_37 : ins 137 37 = some (.if_icmp .le 27, 40, 64, 0, 0, 0) := rfl
theorem i_137_40 : ins 137 40 = some (.aload_n 0, 41, 0, 0, 0, 0) := rfl
theorem i_137_41 : ins 137 41 = some (.iload 4, 43, 4, 0, 0, 0) := rfl
theorem i_137_43 : ins 137 43 = some (.aload_n 0, 44, 0, 0, 0, 0) := rfl
theorem i_137_44 : ins 137 44 = some (.getfield 135, 47, 7, 45, 0, 0) := rfl
theorem i_137_47 : ins 137 47 = some (.iload 5, 49, 5, 0, 0, 0) := rfl
theorem i_137_49 : ins 137 49 = some (.iaload, 50, 0, 0, 0, 0) := rfl
theorem i_137_50 : ins 137 50 = some (.aload_n 0, 51, 0, 0, 0, 0) := rfl
theorem i_137_51 : ins 137 51 = some (.iload 5, 53, 5, 0, 0, 0) := rfl
theorem i_137_53 : ins 137 53 = some (.iload_n 2, 54, 2, 0, 0, 0) := rfl
theorem i_137_54 : ins 137 54 = some (.iload_n 3, 55, 3, 0, 0, 0) := rfl
theorem i_137_55 : ins 137 55 = some (.invokevirtual 256, 58, 127, 0, 4, 0) := rfl
theorem i_137_58 : ins 137 58 = some (.iadd, 59, 0, 0, 0, 0) := rfl
theorem i_137_59 : ins 137 59 = some (.invokevirtual 233, 62, 121, 0, 3, 0) := rfl
theorem i_137_62 : ins 137 62 = some (.istore 4, 64, 4, 0, 0, 0) := rfl
theorem i_137_64 : ins 137 64 = some (.iinc 5 1, 67, 5, 0, 0, 1) := rfl
theorem i_137_67 : ins 137 67 = some (.goto (-61), 70, 6, 0, 0, 0) := rfl
theorem i_137_70 : ins 137 70 = some (.iload 4, 72, 4, 0, 0, 0) := rfl
theorem i_137_72 : ins 137 72 = some (.istore 5, 74, 5, 0, 0, 0) := rfl
theorem i_137_187 : ins 137 187 = some (.iload 6, 189, 6, 0, 0, 0) := rfl
theorem i_137_189 : ins 137 189 = some (.aload_n 0, 190, 0, 0, 0, 0) := rfl
theorem i_137_190 : ins 137 190 = some (.getfield 78, 193, 7, 26, 0, 0) := rfl
theorem i_137_193 : ins 137 193 = some (.iload_n 1, 194, 1, 0, 0, 0) := rfl
theorem i_137_194 : ins 137 194 = some (.iaload, 195, 0, 0, 0, 0) := rfl
theorem i_137_195 : ins 137 195 = some (.if_icmp .ge 67, 198, 262, 0, 0, 0) := rfl
theorem i_137_198 : ins 137 198 = some (.iload 6, 200, 6, 0, 0, 0) := rfl
theorem i_137_200 : ins 137 200 = some (.iload_n 2, 201, 2, 0, 0, 0) := rfl
theorem i_137_201 : ins 137 201 = some (.if_icmp .eq 55, 204, 256, 0, 0, 0) := rfl
theorem i_137_204 : ins 137 204 = some (.aload_n 0, 205, 0, 0, 0, 0) := rfl
theorem i_137_205 : ins 137 205 = some (.getfield 135, 208, 7, 45, 0, 0) := rfl
theorem i_137_208 : ins 137 208 = some (.iload 6, 210, 6, 0, 0, 0) := rfl
theorem i_137_210 : ins 137 210 = some (.iaload, 211, 0, 0, 0, 0) := rfl
theorem i_137_211 : ins 137 211 = some (.ifCond .lt 45, 214, 256, 0, 0, 0) := rfl
theorem i_137_214 : ins 137 214 = some (.aload_n 0, 215, 0, 0, 0, 0) := rfl
theorem i_137_215 : ins 137 215 = some (.iload_n 2, 216, 2, 0, 0, 0) := rfl
theorem i_137_216 : ins 137 216 = some (.iload 6, 218, 6, 0, 0, 0) := rfl
theorem i_137_218 : ins 137 218 = some (.iload_n 3, 219, 3, 0, 0, 0) := rfl
theorem i_137_219 : ins 137 219 = some (.invokevirtual 256, 222, 127, 0, 4, 0) := rfl
theorem i_137_222 : ins 137 222 = some (.ldc 222, 224, 222, 0, 0, (-100000)) := rfl
theorem i_137_224 : ins 137 224 = some (.if_icmp .le 32, 227, 256, 0, 0, 0) := rfl
theorem i_137_227 : ins 137 227 = some (.iload 5, 229, 5, 0, 0, 0) := rfl
theorem i_137_229 : ins 137 229 = some (.aload_n 0, 230, 0, 0, 0, 0) := rfl
theorem i_137_230 : ins 137 230 = some (.iload_n 2, 231, 2, 0, 0, 0) := rfl
theorem i_137_231 : ins 137 231 = some (.iload 6, 233, 6, 0, 0, 0) := rfl
theorem i_137_233 : ins 137 233 = some (.iload_n 3, 234, 3, 0, 0, 0) := rfl
theorem i_137_234 : ins 137 234 = some (.invokevirtual 256, 237, 127, 0, 4, 0) := rfl
theorem i_137_237 : ins 137 237 = some (.iadd, 238, 0, 0, 0, 0) := rfl
theorem i_137_238 : ins 137 238 = some (.aload_n 0, 239, 0, 0, 0, 0) := rfl
theorem i_137_239 : ins 137 239 = some (.getfield 135, 242, 7, 45, 0, 0) := rfl
theorem i_137_242 : ins 137 242 = some (.iload 6, 244, 6, 0, 0, 0) := rfl
theorem i_137_244 : ins 137 244 = some (.iaload, 245, 0, 0, 0, 0) := rfl
theorem i_137_245 : ins 137 245 = some (.if_icmp .le 11, 248, 256, 0, 0, 0) := rfl
theorem i_137_248 : ins 137 248 = some (.aload_n 0, 249, 0, 0, 0, 0) := rfl
theorem i_137_249 : ins 137 249 = some (.getfield 135, 252, 7, 45, 0, 0) := rfl
theorem i_137_252 : ins 137 252 = some (.iload 6, 254, 6, 0, 0, 0) := rfl
theorem i_137_254 : ins 137 254 = some (.iconst (-1), 255, 0, 0, 0, (-1)) := rfl
theorem i_137_255 : ins 137 255 = some (.iastore, 256, 0, 0, 0, 0) := rfl
theorem i_137_256 : ins 137 256 = some (.iinc 6 1, 259, 6, 0, 0, 1) := rfl
theorem i_137_259 : ins 137 259 = some (.goto (-72), 262, 187, 0, 0, 0) := rfl
theorem i_137_262 : ins 137 262 = some (.return_, 263, 0, 0, 0, 0) := rfl
theorem S137_6 {Q : Ou → Prop} {M : Mem} {κ : Kp} (hκ : Rd κ) {x n k j : Nat} (hx : x < 6) (hn : n ≤ 10) (hk : k < n) (hj : j ≤ n) (hc : M 151 x = nI n) {ii : Nat} {e : Int32} (b_ii : ii ≤ 100000) {r_32 : Int32} {r_55 : Int32}
    (o1 : j < n → ¬ ((M 170 j) < 0) → Run 127 (0, entL 127 [.ref 134, .int (nI j), .int (nI k), .int (nI ii)], [], M, κ) (.inl (some (.int r_32)), M, κ))
    (o2 : j < n → ¬ ((M 170 j) < 0) → (-100000) < r_32 → Run 127 (0, entL 127 [.ref 134, .int (nI j), .int (nI k), .int (nI ii)], [], M, κ) (.inl (some (.int r_55)), M, κ))
    (k1 : j < n → RT 137 (6, [.ref 134, .int (nI x), .int (nI k), .int (nI ii), .int (if (M 170 j) < 0 then e else (if (-100000) < r_32 then (mx e ((M 170 j) + r_55)) else e)), .int (nI (j + 1)), UU], [], M, κ) Q)
    (k2 : ¬ (j < n) → RT 137 (74, [.ref 134, .int (nI x), .int (nI k), .int (nI ii), .int e, .int e, UU], [], M, κ) Q)
    : RT 137 (6, [.ref 134, .int (nI x), .int (nI k), .int (nI ii), .int e, .int (nI j), UU], [], M, κ) Q := by
  refine w_load i_137_6 rfl rfl ?_
  refine w_load i_137_8 rfl rfl ?_
  refine w_getR 151 i_137_9 hκ (⟨rfl, by decide⟩ : isOb 134 7) rfl rfl ?_
  refine w_load i_137_12 rfl rfl ?_
  refine w_ialdN (e := x) (v := (nI n)) i_137_13 hκ (⟨rfl, rfl, by decide⟩ : isAr 151 6) (by omega) (by decide) (hc) ?_
  refine w_if2n (j < n) i_137_14 (cN_ge (a := j) (b := n) (by omega) (by omega)) ?_ ?_
  · intro h1
    refine w_load i_137_17 rfl rfl ?_
    refine w_getR 170 i_137_18 hκ (⟨rfl, by decide⟩ : isOb 134 7) rfl rfl ?_
    refine w_load i_137_21 rfl rfl ?_
    refine w_ialdN (e := j) (v := (M 170 j)) i_137_23 hκ (⟨rfl, rfl, by decide⟩ : isAr 170 10) (by omega) (by decide) (rfl) ?_
    have K2 : RT 137 (64, [.ref 134, .int (nI x), .int (nI k), .int (nI ii), .int (if (M 170 j) < 0 then e else (if (-100000) < r_32 then (mx e ((M 170 j) + r_55)) else e)), .int (nI j), UU], [], M, κ) Q := by
      refine w_iincN (n := j) (l1 := [.ref 134, .int (nI x), .int (nI k), .int (nI ii), .int (if (M 170 j) < 0 then e else (if (-100000) < r_32 then (mx e ((M 170 j) + r_55)) else e)), .int (nI (j + 1)), UU]) 1 i_137_64 rfl rfl ?_
      refine w_goto i_137_67 ?_
      exact (k1 h1)
    refine w_if0 ((M 170 j) < 0) i_137_24 cI0_lt ?_ ?_
    · intro h3
      exact (by first | exact (K2) | (have K9 := K2; simp only [↓if_pos h3] at K9 ⊢; exact (K9)))
    · intro h4
      refine w_load i_137_27 rfl rfl ?_
      refine w_load i_137_28 rfl rfl ?_
      refine w_load i_137_30 rfl rfl ?_
      refine w_load i_137_31 rfl rfl ?_
      refine w_callV (i := _) i_137_32 ⟨by decide, by decide, by decide, rfl⟩ hκ (⟨rfl, by decide⟩ : isOb 134 7) (av := [.int (nI j), .int (nI k), .int (nI ii)]) (rest := []) rfl rfl (Nat.le_of_ble_eq_true rfl) (v := some (.int r_32)) (o1 h1 h4) ?_
      refine w_push i_137_35 rfl ?_
      refine w_if2n ((-100000) < r_32) i_137_37 cI_le ?_ ?_
      · intro h5
        refine w_load i_137_40 rfl rfl ?_
        refine w_load i_137_41 rfl rfl ?_
        refine w_load i_137_43 rfl rfl ?_
        refine w_getR 170 i_137_44 hκ (⟨rfl, by decide⟩ : isOb 134 7) rfl rfl ?_
        refine w_load i_137_47 rfl rfl ?_
        refine w_ialdN (e := j) (v := (M 170 j)) i_137_49 hκ (⟨rfl, rfl, by decide⟩ : isAr 170 10) (by omega) (by decide) (rfl) ?_
        refine w_load i_137_50 rfl rfl ?_
        refine w_load i_137_51 rfl rfl ?_
        refine w_load i_137_53 rfl rfl ?_
        refine w_load i_137_54 rfl rfl ?_
        refine w_callV (i := _) i_137_55 ⟨by decide, by decide, by decide, rfl⟩ hκ (⟨rfl, by decide⟩ : isOb 134 7) (av := [.int (nI j), .int (nI k), .int (nI ii)]) (rest := [.int (M 170 j), .int e, .ref 134]) rfl rfl (Nat.le_of_ble_eq_true rfl) (v := some (.int r_55)) (o2 h1 h4 h5) ?_
        refine w_bin (w := ((M 170 j) + r_55)) i_137_58 rfl rfl ?_
        refine w_callV (i := _) i_137_59 ⟨by decide, by decide, by decide, rfl⟩ hκ (⟨rfl, by decide⟩ : isOb 134 7) (av := [.int e, .int ((M 170 j) + r_55)]) (rest := []) rfl rfl (Nat.le_of_ble_eq_true rfl) (v := some (.int (mx e ((M 170 j) + r_55)))) (c121 hκ) ?_
        refine w_store (l1 := [.ref 134, .int (nI x), .int (nI k), .int (nI ii), .int (mx e ((M 170 j) + r_55)), .int (nI j), UU]) i_137_62 rfl (Nat.le_of_ble_eq_true rfl) rfl ?_
        exact (by first | exact (K2) | (have K9 := K2; simp only [↓if_neg h4, ↓if_pos h5] at K9 ⊢; exact (K9)))
      · intro h6
        exact (by first | exact (K2) | (have K9 := K2; simp only [↓if_neg h4, ↓if_neg h6] at K9 ⊢; exact (K9)))
  · intro h7
    refine w_load i_137_70 rfl rfl ?_
    refine w_store (l1 := [.ref 134, .int (nI x), .int (nI k), .int (nI ii), .int e, .int e, UU]) i_137_72 rfl (Nat.le_of_ble_eq_true rfl) rfl ?_
    exact (k2 h7)
theorem S137_187 {Q : Ou → Prop} {M : Mem} {κ : Kp} (hκ : Rd κ) {x n k j : Nat} (hx : x < 6) (hn : n ≤ 10) (hk : k < n) (hj : j ≤ n) (hc : M 151 x = nI n) {ii : Nat} {a : Int32} (b_ii : ii ≤ 100000) {r_219 : Int32} {r_234 : Int32}
    (o1 : j < n → ¬ (j = k) → ¬ ((M 170 j) < 0) → Run 127 (0, entL 127 [.ref 134, .int (nI k), .int (nI j), .int (nI ii)], [], M, κ) (.inl (some (.int r_219)), M, κ))
    (o2 : j < n → ¬ (j = k) → ¬ ((M 170 j) < 0) → (-100000) < r_219 → Run 127 (0, entL 127 [.ref 134, .int (nI k), .int (nI j), .int (nI ii)], [], M, κ) (.inl (some (.int r_234)), M, κ))
    (k1 : j < n → RT 137 (187, [.ref 134, .int (nI x), .int (nI k), .int (nI ii), UU, .int a, .int (nI (j + 1))], [], (if j = k then M else (if (M 170 j) < 0 then M else (if (-100000) < r_219 then (if (M 170 j) < (a + r_234) then (stM M 170 j (-1)) else M) else M))), κ) Q)
    (k2 : ¬ (j < n) → Q (.inl none, M, κ))
    : RT 137 (187, [.ref 134, .int (nI x), .int (nI k), .int (nI ii), UU, .int a, .int (nI j)], [], M, κ) Q := by
  refine w_load i_137_187 rfl rfl ?_
  refine w_load i_137_189 rfl rfl ?_
  refine w_getR 151 i_137_190 hκ (⟨rfl, by decide⟩ : isOb 134 7) rfl rfl ?_
  refine w_load i_137_193 rfl rfl ?_
  refine w_ialdN (e := x) (v := (nI n)) i_137_194 hκ (⟨rfl, rfl, by decide⟩ : isAr 151 6) (by omega) (by decide) (hc) ?_
  refine w_if2n (j < n) i_137_195 (cN_ge (a := j) (b := n) (by omega) (by omega)) ?_ ?_
  · intro h1
    refine w_load i_137_198 rfl rfl ?_
    refine w_load i_137_200 rfl rfl ?_
    have K2 : RT 137 (256, [.ref 134, .int (nI x), .int (nI k), .int (nI ii), UU, .int a, .int (nI j)], [], (if j = k then M else (if (M 170 j) < 0 then M else (if (-100000) < r_219 then (if (M 170 j) < (a + r_234) then (stM M 170 j (-1)) else M) else M))), κ) Q := by
      refine w_iincN (n := j) (l1 := [.ref 134, .int (nI x), .int (nI k), .int (nI ii), UU, .int a, .int (nI (j + 1))]) 1 i_137_256 rfl rfl ?_
      refine w_goto i_137_259 ?_
      exact (k1 h1)
    refine w_if2 (j = k) i_137_201 (cN_eq (a := j) (b := k) (by omega) (by omega)) ?_ ?_
    · intro h3
      exact (by first | exact (K2) | (have K9 := K2; simp only [↓if_pos h3] at K9 ⊢; exact (K9)))
    · intro h4
      refine w_load i_137_204 rfl rfl ?_
      refine w_getR 170 i_137_205 hκ (⟨rfl, by decide⟩ : isOb 134 7) rfl rfl ?_
      refine w_load i_137_208 rfl rfl ?_
      refine w_ialdN (e := j) (v := (M 170 j)) i_137_210 hκ (⟨rfl, rfl, by decide⟩ : isAr 170 10) (by omega) (by decide) (rfl) ?_
      refine w_if0 ((M 170 j) < 0) i_137_211 cI0_lt ?_ ?_
      · intro h5
        exact (by first | exact (K2) | (have K9 := K2; simp only [↓if_neg h4, ↓if_pos h5] at K9 ⊢; exact (K9)))
      · intro h6
        refine w_load i_137_214 rfl rfl ?_
        refine w_load i_137_215 rfl rfl ?_
        refine w_load i_137_216 rfl rfl ?_
        refine w_load i_137_218 rfl rfl ?_
        refine w_callV (i := _) i_137_219 ⟨by decide, by decide, by decide, rfl⟩ hκ (⟨rfl, by decide⟩ : isOb 134 7) (av := [.int (nI k), .int (nI j), .int (nI ii)]) (rest := []) rfl rfl (Nat.le_of_ble_eq_true rfl) (v := some (.int r_219)) (o1 h1 h4 h6) ?_
        refine w_push i_137_222 rfl ?_
        refine w_if2n ((-100000) < r_219) i_137_224 cI_le ?_ ?_
        · intro h7
          refine w_load i_137_227 rfl rfl ?_
          refine w_load i_137_229 rfl rfl ?_
          refine w_load i_137_230 rfl rfl ?_
          refine w_load i_137_231 rfl rfl ?_
          refine w_load i_137_233 rfl rfl ?_
          refine w_callV (i := _) i_137_234 ⟨by decide, by decide, by decide, rfl⟩ hκ (⟨rfl, by decide⟩ : isOb 134 7) (av := [.int (nI k), .int (nI j), .int (nI ii)]) (rest := [.int a]) rfl rfl (Nat.le_of_ble_eq_true rfl) (v := some (.int r_234)) (o2 h1 h4 h6 h7) ?_
          refine w_bin (w := (a + r_234)) i_137_237 rfl rfl ?_
          refine w_load i_137_238 rfl rfl ?_
          refine w_getR 170 i_137_239 hκ (⟨rfl, by decide⟩ : isOb 134 7) rfl rfl ?_
          refine w_load i_137_242 rfl rfl ?_
          refine w_ialdN (e := j) (v := (M 170 j)) i_137_244 hκ (⟨rfl, rfl, by decide⟩ : isAr 170 10) (by omega) (by decide) (rfl) ?_
          refine w_if2n ((M 170 j) < (a + r_234)) i_137_245 cI_le ?_ ?_
          · intro h8
            refine w_load i_137_248 rfl rfl ?_
            refine w_getR 170 i_137_249 hκ (⟨rfl, by decide⟩ : isOb 134 7) rfl rfl ?_
            refine w_load i_137_252 rfl rfl ?_
            refine w_push i_137_254 rfl ?_
            refine w_iastN (e := j) i_137_255 hκ (⟨rfl, rfl, by decide⟩ : isAr 170 10) (by omega) (by decide) ?_
            exact (by first | exact (K2) | (have K9 := K2; simp only [↓if_neg h4, ↓if_neg h6, ↓if_pos h7, ↓if_pos h8] at K9 ⊢; exact (K9)))
          · intro h9
            exact (by first | exact (K2) | (have K9 := K2; simp only [↓if_neg h4, ↓if_neg h6, ↓if_pos h7, ↓if_neg h9] at K9 ⊢; exact (K9)))
        · intro h10
          exact (by first | exact (K2) | (have K9 := K2; simp only [↓if_neg h4, ↓if_neg h6, ↓if_neg h10] at K9 ⊢; exact (K9)))
  · intro h11
    exact w_vret i_137_262 rfl (k2 h11)
theorem i_137_74 : ins 137 74 = some (.iload 5, 76, 5, 0, 0, 0) := rfl
theorem i_137_76 : ins 137 76 = some (.iload 4, 78, 4, 0, 0, 0) := rfl
theorem i_137_78 : ins 137 78 = some (.iload_n 3, 79, 3, 0, 0, 0) := rfl
theorem i_137_79 : ins 137 79 = some (.iadd, 80, 0, 0, 0, 0) := rfl
theorem i_137_80 : ins 137 80 = some (.if_icmp .ge 33, 83, 113, 0, 0, 0) := rfl
theorem i_137_83 : ins 137 83 = some (.aload_n 0, 84, 0, 0, 0, 0) := rfl
theorem i_137_84 : ins 137 84 = some (.iload_n 1, 85, 1, 0, 0, 0) := rfl
theorem i_137_85 : ins 137 85 = some (.iload_n 2, 86, 2, 0, 0, 0) := rfl
theorem i_137_86 : ins 137 86 = some (.iload 5, 88, 5, 0, 0, 0) := rfl
theorem i_137_88 : ins 137 88 = some (.iload_n 3, 89, 3, 0, 0, 0) := rfl
theorem i_137_89 : ins 137 89 = some (.irem, 90, 0, 0, 0, 0) := rfl
theorem i_137_90 : ins 137 90 = some (.iload_n 3, 91, 3, 0, 0, 0) := rfl
theorem i_137_91 : ins 137 91 = some (.invokevirtual 286, 94, 134, 0, 5, 0) := rfl
theorem i_137_94 : ins 137 94 = some (.aload_n 0, 95, 0, 0, 0, 0) := rfl
theorem i_137_95 : ins 137 95 = some (.bipush 10, 97, 0, 0, 0, 10) := rfl
theorem i_137_97 : ins 137 97 = some (.iload_n 1, 98, 1, 0, 0, 0) := rfl
theorem i_137_98 : ins 137 98 = some (.imul, 99, 0, 0, 0, 0) := rfl
theorem i_137_99 : ins 137 99 = some (.iload_n 2, 100, 2, 0, 0, 0) := rfl
theorem i_137_100 : ins 137 100 = some (.iadd, 101, 0, 0, 0, 0) := rfl
theorem i_137_101 : ins 137 101 = some (.invokevirtual 280, 104, 130, 0, 2, 0) := rfl
theorem i_137_104 : ins 137 104 = some (.if_icmp .lt 9, 107, 113, 0, 0, 0) := rfl
theorem i_137_107 : ins 137 107 = some (.iinc 5 1, 110, 5, 0, 0, 1) := rfl
theorem i_137_110 : ins 137 110 = some (.goto (-36), 113, 74, 0, 0, 0) := rfl
theorem i_137_113 : ins 137 113 = some (.iload 5, 115, 5, 0, 0, 0) := rfl
theorem i_137_115 : ins 137 115 = some (.iload 4, 117, 4, 0, 0, 0) := rfl
theorem i_137_117 : ins 137 117 = some (.iload_n 3, 118, 3, 0, 0, 0) := rfl
theorem i_137_118 : ins 137 118 = some (.iadd, 119, 0, 0, 0, 0) := rfl
theorem i_137_119 : ins 137 119 = some (.if_icmp .ne 49, 122, 168, 0, 0, 0) := rfl
theorem i_137_122 : ins 137 122 = some (.aload_n 0, 123, 0, 0, 0, 0) := rfl
theorem i_137_123 : ins 137 123 = some (.getfield 138, 126, 7, 46, 0, 0) := rfl
theorem i_137_126 : ins 137 126 = some (.iload_n 2, 127, 2, 0, 0, 0) := rfl
theorem i_137_127 : ins 137 127 = some (.iaload, 128, 0, 0, 0, 0) := rfl
theorem i_137_128 : ins 137 128 = some (.ifCond .lt 14, 131, 142, 0, 0, 0) := rfl
theorem i_137_131 : ins 137 131 = some (.iload 4, 133, 4, 0, 0, 0) := rfl
theorem i_137_133 : ins 137 133 = some (.aload_n 0, 134, 0, 0, 0, 0) := rfl
theorem i_137_134 : ins 137 134 = some (.getfield 138, 137, 7, 46, 0, 0) := rfl
theorem i_137_137 : ins 137 137 = some (.iload_n 2, 138, 2, 0, 0, 0) := rfl
theorem i_137_138 : ins 137 138 = some (.iaload, 139, 0, 0, 0, 0) := rfl
theorem i_137_139 : ins 137 139 = some (.if_icmp .le 8, 142, 147, 0, 0, 0) := rfl
theorem i_137_142 : ins 137 142 = some (.iload 4, 144, 4, 0, 0, 0) := rfl
theorem i_137_144 : ins 137 144 = some (.goto 11, 147, 155, 0, 0, 0) := rfl
theorem i_137_147 : ins 137 147 = some (.aload_n 0, 148, 0, 0, 0, 0) := rfl
theorem i_137_148 : ins 137 148 = some (.getfield 138, 151, 7, 46, 0, 0) := rfl
theorem i_137_151 : ins 137 151 = some (.iload_n 2, 152, 2, 0, 0, 0) := rfl
theorem i_137_152 : ins 137 152 = some (.iaload, 153, 0, 0, 0, 0) := rfl
theorem i_137_153 : ins 137 153 = some (.iconst 1, 154, 0, 0, 0, 1) := rfl
theorem i_137_154 : ins 137 154 = some (.iadd, 155, 0, 0, 0, 0) := rfl
theorem i_137_155 : ins 137 155 = some (.istore 5, 157, 5, 0, 0, 0) := rfl
theorem i_137_157 : ins 137 157 = some (.aload_n 0, 158, 0, 0, 0, 0) := rfl
theorem i_137_158 : ins 137 158 = some (.iload_n 1, 159, 1, 0, 0, 0) := rfl
theorem i_137_159 : ins 137 159 = some (.iload_n 2, 160, 2, 0, 0, 0) := rfl
theorem i_137_160 : ins 137 160 = some (.iload 5, 162, 5, 0, 0, 0) := rfl
theorem i_137_162 : ins 137 162 = some (.iload_n 3, 163, 3, 0, 0, 0) := rfl
theorem i_137_163 : ins 137 163 = some (.irem, 164, 0, 0, 0, 0) := rfl
theorem i_137_164 : ins 137 164 = some (.iload_n 3, 165, 3, 0, 0, 0) := rfl
theorem i_137_165 : ins 137 165 = some (.invokevirtual 290, 168, 135, 0, 5, 0) := rfl
theorem i_137_168 : ins 137 168 = some (.aload_n 0, 169, 0, 0, 0, 0) := rfl
theorem i_137_169 : ins 137 169 = some (.getfield 135, 172, 7, 45, 0, 0) := rfl
theorem i_137_172 : ins 137 172 = some (.iload_n 2, 173, 2, 0, 0, 0) := rfl
theorem i_137_173 : ins 137 173 = some (.iload 5, 175, 5, 0, 0, 0) := rfl
theorem i_137_175 : ins 137 175 = some (.iastore, 176, 0, 0, 0, 0) := rfl
theorem i_137_176 : ins 137 176 = some (.aload_n 0, 177, 0, 0, 0, 0) := rfl
theorem i_137_177 : ins 137 177 = some (.getfield 138, 180, 7, 46, 0, 0) := rfl
theorem i_137_180 : ins 137 180 = some (.iload_n 2, 181, 2, 0, 0, 0) := rfl
theorem i_137_181 : ins 137 181 = some (.iload 5, 183, 5, 0, 0, 0) := rfl
theorem i_137_183 : ins 137 183 = some (.iastore, 184, 0, 0, 0, 0) := rfl
theorem i_137_184 : ins 137 184 = some (.iconst 0, 185, 0, 0, 0, 0) := rfl
theorem i_137_185 : ins 137 185 = some (.istore 6, 187, 6, 0, 0, 0) := rfl
theorem S137_74 {Q : Ou → Prop} {M : Mem} {κ : Kp} (hκ : Rd κ) {x n k al po : Nat} (hx : x < 6) (hn : n ≤ 10) (hk : k < n) (hc : M 151 x = nI n) (hal : M 134 1 = nI al) (hpo : M 134 2 = nI po) {O : Op} (hO : ∀ f, f < 6 → ∀ j, j < n → M (152 + f) (10 * x + j) = O f j) {ii : Nat} {e : Nat} {a : Nat} (b_ii : ii ≤ 100000) (b_e : e ≤ 100000) (b_a : a ≤ 100000) {r_91 : Nat}
    (o1 : (((a < (e + ii)) ∧ ((nI r_91) < (if isP (O 0 k) = true then (nI po) else (nI al)))) ∨ (¬ (a < (e + ii)))) → a = (e + ii) → ¬ (nI ii) = 0)
    (o2 : a < (e + ii) → ¬ (nI ii) = 0)
    (o3 : a < (e + ii) → Run 134 (0, entL 134 [.ref 134, .int (nI x), .int (nI k), .int (rm (nI a) (nI ii)), .int (nI ii)], [], M, κ) (.inl (some (.int (nI r_91))), M, κ))
    (k1 : (((a < (e + ii)) ∧ ((nI r_91) < (if isP (O 0 k) = true then (nI po) else (nI al)))) ∨ (¬ (a < (e + ii)))) → a = (e + ii) → RT 135 (0, entL 135 [.ref 134, .int (nI x), .int (nI k), .int (rm (if (M 171 k) < 0 then (nI e) else (if (M 171 k) < (nI e) then (nI e) else ((M 171 k) + 1))) (nI ii)), .int (nI ii)], [], M, κ) (fun o => ∃ v M1 κ1, o = (.inl v, M1, κ1) ∧ RT 137 (168, [.ref 134, .int (nI x), .int (nI k), .int (nI ii), .int (nI e), .int (if (M 171 k) < 0 then (nI e) else (if (M 171 k) < (nI e) then (nI e) else ((M 171 k) + 1))), UU], v.toList ++ [], M1, κ1) Q))
    (k2 : (((a < (e + ii)) ∧ ((nI r_91) < (if isP (O 0 k) = true then (nI po) else (nI al)))) ∨ (¬ (a < (e + ii)))) → ¬ (a = (e + ii)) → RT 137 (187, [.ref 134, .int (nI x), .int (nI k), .int (nI ii), UU, .int (nI a), .int (nI 0)], [], (stM (stM M 170 k (nI a)) 171 k (nI a)), κ) Q)
    (k3 : a < (e + ii) → ¬ ((nI r_91) < (if isP (O 0 k) = true then (nI po) else (nI al))) → RT 137 (74, [.ref 134, .int (nI x), .int (nI k), .int (nI ii), .int (nI e), .int (nI (a + 1)), UU], [], M, κ) Q)
    : RT 137 (74, [.ref 134, .int (nI x), .int (nI k), .int (nI ii), .int (nI e), .int (nI a), UU], [], M, κ) Q := by
  refine w_load i_137_74 rfl rfl ?_
  refine w_load i_137_76 rfl rfl ?_
  refine w_load i_137_78 rfl rfl ?_
  refine w_bin (w := (nI (e + ii))) i_137_79 rfl (nI_add e ii) ?_
  have K1 : (((a < (e + ii)) ∧ ((nI r_91) < (if isP (O 0 k) = true then (nI po) else (nI al)))) ∨ (¬ (a < (e + ii)))) → RT 137 (113, [.ref 134, .int (nI x), .int (nI k), .int (nI ii), .int (nI e), .int (nI a), UU], [], M, κ) Q := by
    intro h2
    refine w_load i_137_113 rfl rfl ?_
    refine w_load i_137_115 rfl rfl ?_
    refine w_load i_137_117 rfl rfl ?_
    refine w_bin (w := (nI (e + ii))) i_137_118 rfl (nI_add e ii) ?_
    refine w_if2n (a = (e + ii)) i_137_119 (cN_ne (a := a) (b := (e + ii)) (by omega) (by omega)) ?_ ?_
    · intro h3
      refine w_load i_137_122 rfl rfl ?_
      refine w_getR 171 i_137_123 hκ (⟨rfl, by decide⟩ : isOb 134 7) rfl rfl ?_
      refine w_load i_137_126 rfl rfl ?_
      refine w_ialdN (e := k) (v := (M 171 k)) i_137_127 hκ (⟨rfl, rfl, by decide⟩ : isAr 171 10) (by omega) (by decide) (rfl) ?_
      have K4 : RT 137 (155, [.ref 134, .int (nI x), .int (nI k), .int (nI ii), .int (nI e), .int (nI a), UU], [.int (if (M 171 k) < 0 then (nI e) else (if (M 171 k) < (nI e) then (nI e) else ((M 171 k) + 1)))], M, κ) Q := by
        refine w_store (l1 := [.ref 134, .int (nI x), .int (nI k), .int (nI ii), .int (nI e), .int (if (M 171 k) < 0 then (nI e) else (if (M 171 k) < (nI e) then (nI e) else ((M 171 k) + 1))), UU]) i_137_155 rfl (Nat.le_of_ble_eq_true rfl) rfl ?_
        refine w_load i_137_157 rfl rfl ?_
        refine w_load i_137_158 rfl rfl ?_
        refine w_load i_137_159 rfl rfl ?_
        refine w_load i_137_160 rfl rfl ?_
        refine w_load i_137_162 rfl rfl ?_
        refine w_div (w := (rm (if (M 171 k) < 0 then (nI e) else (if (M 171 k) < (nI e) then (nI e) else ((M 171 k) + 1))) (nI ii))) i_137_163 rfl (o1 h2 h3) rfl ?_
        refine w_load i_137_164 rfl rfl ?_
        exact w_callVI (i := _) i_137_165 ⟨by decide, by decide, by decide, rfl⟩ hκ (⟨rfl, by decide⟩ : isOb 134 7) (av := [.int (nI x), .int (nI k), .int (rm (if (M 171 k) < 0 then (nI e) else (if (M 171 k) < (nI e) then (nI e) else ((M 171 k) + 1))) (nI ii)), .int (nI ii)]) (rest := []) rfl rfl (Nat.le_of_ble_eq_true rfl) (k1 h2 h3)
      refine w_if0 ((M 171 k) < 0) i_137_128 cI0_lt ?_ ?_
      · intro h5
        refine w_load i_137_142 rfl rfl ?_
        refine w_goto i_137_144 ?_
        exact (by first | exact (K4) | (have K9 := K4; simp only [↓if_pos h5] at K9 ⊢; exact (K9)))
      · intro h6
        refine w_load i_137_131 rfl rfl ?_
        refine w_load i_137_133 rfl rfl ?_
        refine w_getR 171 i_137_134 hκ (⟨rfl, by decide⟩ : isOb 134 7) rfl rfl ?_
        refine w_load i_137_137 rfl rfl ?_
        refine w_ialdN (e := k) (v := (M 171 k)) i_137_138 hκ (⟨rfl, rfl, by decide⟩ : isAr 171 10) (by omega) (by decide) (rfl) ?_
        refine w_if2n ((M 171 k) < (nI e)) i_137_139 cI_le ?_ ?_
        · intro h7
          refine w_load i_137_142 rfl rfl ?_
          refine w_goto i_137_144 ?_
          exact (by first | exact (K4) | (have K9 := K4; simp only [↓if_neg h6, ↓if_pos h7] at K9 ⊢; exact (K9)))
        · intro h8
          refine w_load i_137_147 rfl rfl ?_
          refine w_getR 171 i_137_148 hκ (⟨rfl, by decide⟩ : isOb 134 7) rfl rfl ?_
          refine w_load i_137_151 rfl rfl ?_
          refine w_ialdN (e := k) (v := (M 171 k)) i_137_152 hκ (⟨rfl, rfl, by decide⟩ : isAr 171 10) (by omega) (by decide) (rfl) ?_
          refine w_push i_137_153 rfl ?_
          refine w_bin (w := ((M 171 k) + 1)) i_137_154 rfl rfl ?_
          exact (by first | exact (K4) | (have K9 := K4; simp only [↓if_neg h6, ↓if_neg h8] at K9 ⊢; exact (K9)))
    · intro h9
      refine w_load i_137_168 rfl rfl ?_
      refine w_getR 170 i_137_169 hκ (⟨rfl, by decide⟩ : isOb 134 7) rfl rfl ?_
      refine w_load i_137_172 rfl rfl ?_
      refine w_load i_137_173 rfl rfl ?_
      refine w_iastN (e := k) i_137_175 hκ (⟨rfl, rfl, by decide⟩ : isAr 170 10) (by omega) (by decide) ?_
      refine w_load i_137_176 rfl rfl ?_
      refine w_getR 171 i_137_177 hκ (⟨rfl, by decide⟩ : isOb 134 7) rfl rfl ?_
      refine w_load i_137_180 rfl rfl ?_
      refine w_load i_137_181 rfl rfl ?_
      refine w_iastN (e := k) i_137_183 hκ (⟨rfl, rfl, by decide⟩ : isAr 171 10) (by omega) (by decide) ?_
      refine w_push i_137_184 rfl ?_
      refine w_store (l1 := [.ref 134, .int (nI x), .int (nI k), .int (nI ii), .int (nI e), .int (nI a), .int 0]) i_137_185 rfl (Nat.le_of_ble_eq_true rfl) rfl ?_
      exact w_weak (lle_s (lle_s (lle_s (lle_s (lle_u (lle_s (lle_s lle_n))))))) (k2 h2 h9)
  refine w_if2n (a < (e + ii)) i_137_80 (cN_ge (a := a) (b := (e + ii)) (by omega) (by omega)) ?_ ?_
  · intro h10
    refine w_load i_137_83 rfl rfl ?_
    refine w_load i_137_84 rfl rfl ?_
    refine w_load i_137_85 rfl rfl ?_
    refine w_load i_137_86 rfl rfl ?_
    refine w_load i_137_88 rfl rfl ?_
    refine w_div (w := (rm (nI a) (nI ii))) i_137_89 rfl (o2 h10) rfl ?_
    refine w_load i_137_90 rfl rfl ?_
    refine w_callV (i := _) i_137_91 ⟨by decide, by decide, by decide, rfl⟩ hκ (⟨rfl, by decide⟩ : isOb 134 7) (av := [.int (nI x), .int (nI k), .int (rm (nI a) (nI ii)), .int (nI ii)]) (rest := []) rfl rfl (Nat.le_of_ble_eq_true rfl) (v := some (.int (nI r_91))) (o3 h10) ?_
    refine w_load i_137_94 rfl rfl ?_
    refine w_push i_137_95 rfl ?_
    refine w_load i_137_97 rfl rfl ?_
    refine w_bin (w := (nI (10 * x))) i_137_98 rfl (nI_mul 10 x) ?_
    refine w_load i_137_99 rfl rfl ?_
    refine w_bin (w := (nI ((10 * x) + k))) i_137_100 rfl (nI_add (10 * x) k) ?_
    refine w_callV (i := _) i_137_101 ⟨by decide, by decide, by decide, rfl⟩ hκ (⟨rfl, by decide⟩ : isOb 134 7) (av := [.int (nI ((10 * x) + k))]) (rest := [.int (nI r_91)]) rfl rfl (Nat.le_of_ble_eq_true rfl) (v := some (.int (if isP (O 0 k) = true then (nI po) else (nI al)))) (c130 hκ (by omega) (hO 0 (by decide) k (by omega)) (hpo) (hal)) ?_
    refine w_if2 ((nI r_91) < (if isP (O 0 k) = true then (nI po) else (nI al))) i_137_104 cI_lt ?_ ?_
    · intro h11
      exact (by first | exact (K1 (.inl ⟨h10, h11⟩)) | (have K9 := K1 (.inl ⟨h10, h11⟩); simp only [↓if_pos h10, ↓if_pos h11] at K9 ⊢; exact (K9)))
    · intro h12
      refine w_iincN (n := a) (l1 := [.ref 134, .int (nI x), .int (nI k), .int (nI ii), .int (nI e), .int (nI (a + 1)), UU]) 1 i_137_107 rfl rfl ?_
      refine w_goto i_137_110 ?_
      exact (k3 h10 h12)
  · intro h13
    exact (by first | exact (K1 (.inr h13)) | (have K9 := K1 (.inr h13); simp only [↓if_neg h13] at K9 ⊢; exact (K9)))
theorem S137_168 {Q : Ou → Prop} {M : Mem} {κ : Kp} (hκ : Rd κ) {x n k : Nat} (hx : x < 6) (hn : n ≤ 10) (hk : k < n) {ii : Nat} {a : Int32} (b_ii : ii ≤ 100000)
    (k1 : RT 137 (187, [.ref 134, .int (nI x), .int (nI k), .int (nI ii), UU, .int a, .int (nI 0)], [], (stM (stM M 170 k a) 171 k a), κ) Q)
    : RT 137 (168, [.ref 134, .int (nI x), .int (nI k), .int (nI ii), UU, .int a, UU], [], M, κ) Q := by
  refine w_load i_137_168 rfl rfl ?_
  refine w_getR 170 i_137_169 hκ (⟨rfl, by decide⟩ : isOb 134 7) rfl rfl ?_
  refine w_load i_137_172 rfl rfl ?_
  refine w_load i_137_173 rfl rfl ?_
  refine w_iastN (e := k) i_137_175 hκ (⟨rfl, rfl, by decide⟩ : isAr 170 10) (by omega) (by decide) ?_
  refine w_load i_137_176 rfl rfl ?_
  refine w_getR 171 i_137_177 hκ (⟨rfl, by decide⟩ : isOb 134 7) rfl rfl ?_
  refine w_load i_137_180 rfl rfl ?_
  refine w_load i_137_181 rfl rfl ?_
  refine w_iastN (e := k) i_137_183 hκ (⟨rfl, rfl, by decide⟩ : isAr 171 10) (by omega) (by decide) ?_
  refine w_push i_137_184 rfl ?_
  refine w_store (l1 := [.ref 134, .int (nI x), .int (nI k), .int (nI ii), UU, .int a, .int 0]) i_137_185 rfl (Nat.le_of_ble_eq_true rfl) rfl ?_
  exact (k1)
theorem i_136_0 : ins 136 0 = some (.aload_n 0, 1, 0, 0, 0, 0) := rfl
theorem i_136_1 : ins 136 1 = some (.getfield 78, 4, 7, 26, 0, 0) := rfl
theorem i_136_4 : ins 136 4 = some (.iload_n 1, 5, 1, 0, 0, 0) := rfl
theorem i_136_5 : ins 136 5 = some (.iaload, 6, 0, 0, 0, 0) := rfl
theorem i_136_6 : ins 136 6 = some (.istore_n 3, 7, 3, 0, 0, 0) := rfl
theorem i_136_7 : ins 136 7 = some (.aload_n 0, 8, 0, 0, 0, 0) := rfl
theorem i_136_8 : ins 136 8 = some (.iload_n 3, 9, 3, 0, 0, 0) := rfl
theorem i_136_9 : ins 136 9 = some (.iload_n 2, 10, 2, 0, 0, 0) := rfl
theorem i_136_10 : ins 136 10 = some (.invokevirtual 268, 13, 129, 0, 3, 0) := rfl
theorem i_136_13 : ins 136 13 = some (.istore 4, 15, 4, 0, 0, 0) := rfl
theorem i_136_15 : ins 136 15 = some (.iconst 0, 16, 0, 0, 0, 0) := rfl
theorem i_136_16 : ins 136 16 = some (.istore 5, 18, 5, 0, 0, 0) := rfl
theorem S136_0 {Q : Ou → Prop} {M : Mem} {κ : Kp} (hκ : Rd κ) {x n : Nat} (hx : x < 6) (hc : M 151 x = nI n) {ii : Nat} (b_ii : ii ≤ 100000)
    (k1 : RT 129 (0, entL 129 [.ref 134, .int (nI n), .int (nI ii)], [], M, κ) (fun o => ∃ v M1 κ1, o = (.inl v, M1, κ1) ∧ RT 136 (13, [.ref 134, .int (nI x), .int (nI ii), .int (nI n), UU, UU, UU, UU], v.toList ++ [], M1, κ1) Q))
    : RT 136 (0, [.ref 134, .int (nI x), .int (nI ii), UU, UU, UU, UU, UU], [], M, κ) Q := by
  refine w_load i_136_0 rfl rfl ?_
  refine w_getR 151 i_136_1 hκ (⟨rfl, by decide⟩ : isOb 134 7) rfl rfl ?_
  refine w_load i_136_4 rfl rfl ?_
  refine w_ialdN (e := x) (v := (nI n)) i_136_5 hκ (⟨rfl, rfl, by decide⟩ : isAr 151 6) (by omega) (by decide) (hc) ?_
  refine w_store (l1 := [.ref 134, .int (nI x), .int (nI ii), .int (nI n), UU, UU, UU, UU]) i_136_6 rfl (Nat.le_of_ble_eq_true rfl) rfl ?_
  refine w_load i_136_7 rfl rfl ?_
  refine w_load i_136_8 rfl rfl ?_
  refine w_load i_136_9 rfl rfl ?_
  exact w_callVI (i := _) i_136_10 ⟨by decide, by decide, by decide, rfl⟩ hκ (⟨rfl, by decide⟩ : isOb 134 7) (av := [.int (nI n), .int (nI ii)]) (rest := []) rfl rfl (Nat.le_of_ble_eq_true rfl) (k1)
theorem S136_13 {Q : Ou → Prop} {M : Mem} {κ : Kp} (hκ : Rd κ) {x n : Nat} (hx : x < 6) (hc : M 151 x = nI n) {ii : Nat} {mo : Bool} (b_ii : ii ≤ 100000)
    (k1 : RT 136 (18, [.ref 134, .int (nI x), .int (nI ii), .int (nI n), .int (bI mo), .int 0, UU, UU], [], M, κ) Q)
    : RT 136 (13, [.ref 134, .int (nI x), .int (nI ii), .int (nI n), UU, UU, UU, UU], [.int (bI mo)], M, κ) Q := by
  refine w_store (l1 := [.ref 134, .int (nI x), .int (nI ii), .int (nI n), .int (bI mo), UU, UU, UU]) i_136_13 rfl (Nat.le_of_ble_eq_true rfl) rfl ?_
  refine w_push i_136_15 rfl ?_
  refine w_store (l1 := [.ref 134, .int (nI x), .int (nI ii), .int (nI n), .int (bI mo), .int 0, UU, UU]) i_136_16 rfl (Nat.le_of_ble_eq_true rfl) rfl ?_
  exact (k1)
theorem i_136_18 : ins 136 18 = some (.iload 5, 20, 5, 0, 0, 0) := rfl
theorem i_136_20 : ins 136 20 = some (.iload_n 3, 21, 3, 0, 0, 0) := rfl
theorem i_136_21 : ins 136 21 = some (.if_icmp .ge 79, 24, 100, 0, 0, 0) := rfl
theorem i_136_24 : ins 136 24 = some (.aload_n 0, 25, 0, 0, 0, 0) := rfl
theorem i_136_25 : ins 136 25 = some (.getfield 132, 28, 7, 44, 0, 0) := rfl
theorem i_136_28 : ins 136 28 = some (.iload 5, 30, 5, 0, 0, 0) := rfl
theorem i_136_30 : ins 136 30 = some (.iconst 0, 31, 0, 0, 0, 0) := rfl
theorem i_136_31 : ins 136 31 = some (.iastore, 32, 0, 0, 0, 0) := rfl
theorem i_136_32 : ins 136 32 = some (.iconst 0, 33, 0, 0, 0, 0) := rfl
theorem i_136_33 : ins 136 33 = some (.istore 6, 35, 6, 0, 0, 0) := rfl
theorem i_136_100 : ins 136 100 = some (.iconst 0, 101, 0, 0, 0, 0) := rfl
theorem i_136_101 : ins 136 101 = some (.istore 5, 103, 5, 0, 0, 0) := rfl
theorem S136_18 {Q : Ou → Prop} {M : Mem} {κ : Kp} (hκ : Rd κ) {x n i : Nat} (hx : x < 6) (hn : n ≤ 10) (hi : i ≤ n) {ii : Nat} {mo : Bool} (b_ii : ii ≤ 100000)
    (k1 : i < n → RT 136 (35, [.ref 134, .int (nI x), .int (nI ii), .int (nI n), .int (bI mo), .int (nI i), .int (nI 0), UU], [], (stM M 169 i 0), κ) Q)
    (k2 : ¬ (i < n) → RT 136 (103, [.ref 134, .int (nI x), .int (nI ii), .int (nI n), .int (bI mo), .int (nI 0), UU, UU], [], M, κ) Q)
    : RT 136 (18, [.ref 134, .int (nI x), .int (nI ii), .int (nI n), .int (bI mo), .int (nI i), UU, UU], [], M, κ) Q := by
  refine w_load i_136_18 rfl rfl ?_
  refine w_load i_136_20 rfl rfl ?_
  refine w_if2n (i < n) i_136_21 (cN_ge (a := i) (b := n) (by omega) (by omega)) ?_ ?_
  · intro h1
    refine w_load i_136_24 rfl rfl ?_
    refine w_getR 169 i_136_25 hκ (⟨rfl, by decide⟩ : isOb 134 7) rfl rfl ?_
    refine w_load i_136_28 rfl rfl ?_
    refine w_push i_136_30 rfl ?_
    refine w_iastN (e := i) i_136_31 hκ (⟨rfl, rfl, by decide⟩ : isAr 169 10) (by omega) (by decide) ?_
    refine w_push i_136_32 rfl ?_
    refine w_store (l1 := [.ref 134, .int (nI x), .int (nI ii), .int (nI n), .int (bI mo), .int (nI i), .int 0, UU]) i_136_33 rfl (Nat.le_of_ble_eq_true rfl) rfl ?_
    exact (k1 h1)
  · intro h2
    refine w_push i_136_100 rfl ?_
    refine w_store (l1 := [.ref 134, .int (nI x), .int (nI ii), .int (nI n), .int (bI mo), .int 0, UU, UU]) i_136_101 rfl (Nat.le_of_ble_eq_true rfl) rfl ?_
    exact (k2 h2)
theorem i_136_103 : ins 136 103 = some (.iload 5, 105, 5, 0, 0, 0) := rfl
theorem i_136_105 : ins 136 105 = some (.bipush 6, 107, 0, 0, 0, 6) := rfl
theorem i_136_107 : ins 136 107 = some (.iload_n 3, 108, 3, 0, 0, 0) := rfl
theorem i_136_108 : ins 136 108 = some (.imul, 109, 0, 0, 0, 0) := rfl
theorem i_136_109 : ins 136 109 = some (.if_icmp .ge 76, 112, 185, 0, 0, 0) := rfl
theorem i_136_112 : ins 136 112 = some (.iconst (-1), 113, 0, 0, 0, (-1)) := rfl
theorem i_136_113 : ins 136 113 = some (.istore 6, 115, 6, 0, 0, 0) := rfl
theorem i_136_115 : ins 136 115 = some (.iconst 0, 116, 0, 0, 0, 0) := rfl
theorem i_136_116 : ins 136 116 = some (.istore 7, 118, 7, 0, 0, 0) := rfl
theorem i_136_118 : ins 136 118 = some (.iload 7, 120, 7, 0, 0, 0) := rfl
theorem i_136_120 : ins 136 120 = some (.iload_n 3, 121, 3, 0, 0, 0) := rfl
theorem i_136_121 : ins 136 121 = some (.if_icmp .ge 45, 124, 166, 0, 0, 0) := rfl
theorem i_136_124 : ins 136 124 = some (.aload_n 0, 125, 0, 0, 0, 0) := rfl
theorem i_136_125 : ins 136 125 = some (.getfield 135, 128, 7, 45, 0, 0) := rfl
theorem i_136_128 : ins 136 128 = some (.iload 7, 130, 7, 0, 0, 0) := rfl
theorem i_136_130 : ins 136 130 = some (.iaload, 131, 0, 0, 0, 0) := rfl
theorem i_136_131 : ins 136 131 = some (.ifCond .ge 29, 134, 160, 0, 0, 0) := rfl
theorem i_136_134 : ins 136 134 = some (.iload 6, 136, 6, 0, 0, 0) := rfl
theorem i_136_136 : ins 136 136 = some (.ifCond .lt 20, 139, 156, 0, 0, 0) := rfl
theorem i_136_139 : ins 136 139 = some (.aload_n 0, 140, 0, 0, 0, 0) := rfl
theorem i_136_140 : ins 136 140 = some (.getfield 132, 143, 7, 44, 0, 0) := rfl
theorem i_136_143 : ins 136 143 = some (.iload 7, 145, 7, 0, 0, 0) := rfl
theorem i_136_145 : ins 136 145 = some (.iaload, 146, 0, 0, 0, 0) := rfl
theorem i_136_146 : ins 136 146 = some (.aload_n 0, 147, 0, 0, 0, 0) := rfl
theorem i_136_147 : ins 136 147 = some (.getfield 132, 150, 7, 44, 0, 0) := rfl
theorem i_136_150 : ins 136 150 = some (.iload 6, 152, 6, 0, 0, 0) := rfl
theorem i_136_152 : ins 136 152 = some (.iaload, 153, 0, 0, 0, 0) := rfl
theorem i_136_153 : ins 136 153 = some (.if_icmp .le 7, 156, 160, 0, 0, 0) := rfl
theorem i_136_156 : ins 136 156 = some (.iload 7, 158, 7, 0, 0, 0) := rfl
theorem i_136_158 : ins 136 158 = some (.istore 6, 160, 6, 0, 0, 0) := rfl
theorem i_136_160 : ins 136 160 = some (.iinc 7 1, 163, 7, 0, 0, 1) := rfl
theorem i_136_163 : ins 136 163 = some (.goto (-45), 166, 118, 0, 0, 0) := rfl
theorem i_136_166 : ins 136 166 = some (.iload 6, 168, 6, 0, 0, 0) := rfl
theorem i_136_168 : ins 136 168 = some (.ifCond .lt 11, 171, 179, 0, 0, 0) := rfl
theorem i_136_171 : ins 136 171 = some (.aload_n 0, 172, 0, 0, 0, 0) := rfl
theorem i_136_172 : ins 136 172 = some (.iload_n 1, 173, 1, 0, 0, 0) := rfl
theorem i_136_173 : ins 136 173 = some (.iload 6, 175, 6, 0, 0, 0) := rfl
theorem i_136_175 : ins 136 175 = some (.iload_n 2, 176, 2, 0, 0, 0) := rfl
theorem i_136_176 : ins 136 176 = some (.invokevirtual 283, 179, 137, 0, 4, 0) := rfl
theorem i_136_179 : ins 136 179 = some (.iinc 5 1, 182, 5, 0, 0, 1) := rfl
theorem i_136_182 : ins 136 182 = some (.goto (-79), 185, 103, 0, 0, 0) := rfl
theorem i_136_185 : ins 136 185 = some (.iload 4, 187, 4, 0, 0, 0) := rfl
theorem i_136_187 : ins 136 187 = some (.ifCond .ne 7, 190, 194, 0, 0, 0) := rfl
theorem i_136_190 : ins 136 190 = some (.iconst 1, 191, 0, 0, 0, 1) := rfl
theorem i_136_191 : ins 136 191 = some (.goto 4, 194, 195, 0, 0, 0) := rfl
theorem i_136_194 : ins 136 194 = some (.iconst 0, 195, 0, 0, 0, 0) := rfl
theorem i_136_195 : ins 136 195 = some (.istore 5, 197, 5, 0, 0, 0) := rfl
theorem i_136_197 : ins 136 197 = some (.iconst 0, 198, 0, 0, 0, 0) := rfl
theorem i_136_198 : ins 136 198 = some (.istore 6, 200, 6, 0, 0, 0) := rfl
theorem S136_103 {Q : Ou → Prop} {M : Mem} {κ : Kp} (hκ : Rd κ) {x n j : Nat} (hx : x < 6) (hn : n ≤ 10) (hj : j ≤ n) {ii : Nat} {mo : Bool} {s : Nat} (b_ii : ii ≤ 100000) (b_s : s ≤ 100000)
    (k1 : s < (6 * n) → RT 136 (118, [.ref 134, .int (nI x), .int (nI ii), .int (nI n), .int (bI mo), .int (nI s), .int (-1), .int (nI 0)], [], M, κ) Q)
    (k2 : ¬ (s < (6 * n)) → RT 136 (200, [.ref 134, UU, .int (nI ii), .int (nI n), UU, .int (bI (if mo = true then false else true)), .int (nI 0), UU], [], M, κ) Q)
    : RT 136 (103, [.ref 134, .int (nI x), .int (nI ii), .int (nI n), .int (bI mo), .int (nI s), UU, UU], [], M, κ) Q := by
  refine w_load i_136_103 rfl rfl ?_
  refine w_push i_136_105 rfl ?_
  refine w_load i_136_107 rfl rfl ?_
  refine w_bin (w := (nI (6 * n))) i_136_108 rfl (nI_mul 6 n) ?_
  refine w_if2n (s < (6 * n)) i_136_109 (cN_ge (a := s) (b := (6 * n)) (by omega) (by omega)) ?_ ?_
  · intro h1
    refine w_push i_136_112 rfl ?_
    refine w_store (l1 := [.ref 134, .int (nI x), .int (nI ii), .int (nI n), .int (bI mo), .int (nI s), .int (-1), UU]) i_136_113 rfl (Nat.le_of_ble_eq_true rfl) rfl ?_
    refine w_push i_136_115 rfl ?_
    refine w_store (l1 := [.ref 134, .int (nI x), .int (nI ii), .int (nI n), .int (bI mo), .int (nI s), .int (-1), .int 0]) i_136_116 rfl (Nat.le_of_ble_eq_true rfl) rfl ?_
    exact (k1 h1)
  · intro h2
    refine w_load i_136_185 rfl rfl ?_
    have K3 : RT 136 (195, [.ref 134, .int (nI x), .int (nI ii), .int (nI n), .int (bI mo), .int (nI s), UU, UU], [.int (bI (if mo = true then false else true))], M, κ) Q := by
      refine w_store (l1 := [.ref 134, .int (nI x), .int (nI ii), .int (nI n), .int (bI mo), .int (bI (if mo = true then false else true)), UU, UU]) i_136_195 rfl (Nat.le_of_ble_eq_true rfl) rfl ?_
      refine w_push i_136_197 rfl ?_
      refine w_store (l1 := [.ref 134, .int (nI x), .int (nI ii), .int (nI n), .int (bI mo), .int (bI (if mo = true then false else true)), .int 0, UU]) i_136_198 rfl (Nat.le_of_ble_eq_true rfl) rfl ?_
      exact w_weak (lle_s (lle_u (lle_s (lle_s (lle_u (lle_s (lle_s (lle_s lle_n)))))))) (k2 h2)
    refine w_if0 (mo = true) i_136_187 cB_ne ?_ ?_
    · intro h4
      refine w_push i_136_194 rfl ?_
      exact (by first | exact (K3) | (have K9 := K3; simp only [↓if_pos h4] at K9 ⊢; exact (K9)))
    · intro h5
      refine w_push i_136_190 rfl ?_
      refine w_goto i_136_191 ?_
      exact (by first | exact (K3) | (have K9 := K3; simp only [↓if_neg h5] at K9 ⊢; exact (K9)))
theorem S136_118 {Q : Ou → Prop} {M : Mem} {κ : Kp} (hκ : Rd κ) {x n j : Nat} (hx : x < 6) (hn : n ≤ 10) (hj : j ≤ n) {ii : Nat} {mo : Bool} {s : Nat} {be : Int32} (b_ii : ii ≤ 100000) (b_s : s ≤ 100000)
    (o1 : j < n → (M 170 j) < 0 → ¬ (be < 0) → vp_in be 10)
    (k1 : j < n → RT 136 (118, [.ref 134, .int (nI x), .int (nI ii), .int (nI n), .int (bI mo), .int (nI s), .int (if (M 170 j) < 0 then (if be < 0 then (nI j) else (if (M 169 be.toNatClampNeg) < (M 169 j) then (nI j) else be)) else be), .int (nI (j + 1))], [], M, κ) Q)
    (k2 : ¬ (j < n) → be < 0 → RT 136 (103, [.ref 134, .int (nI x), .int (nI ii), .int (nI n), .int (bI mo), .int (nI (s + 1)), UU, UU], [], M, κ) Q)
    (k3 : ¬ (j < n) → ¬ (be < 0) → RT 137 (0, entL 137 [.ref 134, .int (nI x), .int be, .int (nI ii)], [], M, κ) (fun o => ∃ v M1 κ1, o = (.inl v, M1, κ1) ∧ RT 136 (179, [.ref 134, .int (nI x), .int (nI ii), .int (nI n), .int (bI mo), .int (nI s), .int be, .int (nI j)], v.toList ++ [], M1, κ1) Q))
    : RT 136 (118, [.ref 134, .int (nI x), .int (nI ii), .int (nI n), .int (bI mo), .int (nI s), .int be, .int (nI j)], [], M, κ) Q := by
  refine w_load i_136_118 rfl rfl ?_
  refine w_load i_136_120 rfl rfl ?_
  refine w_if2n (j < n) i_136_121 (cN_ge (a := j) (b := n) (by omega) (by omega)) ?_ ?_
  · intro h1
    refine w_load i_136_124 rfl rfl ?_
    refine w_getR 170 i_136_125 hκ (⟨rfl, by decide⟩ : isOb 134 7) rfl rfl ?_
    refine w_load i_136_128 rfl rfl ?_
    refine w_ialdN (e := j) (v := (M 170 j)) i_136_130 hκ (⟨rfl, rfl, by decide⟩ : isAr 170 10) (by omega) (by decide) (rfl) ?_
    have K2 : RT 136 (160, [.ref 134, .int (nI x), .int (nI ii), .int (nI n), .int (bI mo), .int (nI s), .int (if (M 170 j) < 0 then (if be < 0 then (nI j) else (if (M 169 be.toNatClampNeg) < (M 169 j) then (nI j) else be)) else be), .int (nI j)], [], M, κ) Q := by
      refine w_iincN (n := j) (l1 := [.ref 134, .int (nI x), .int (nI ii), .int (nI n), .int (bI mo), .int (nI s), .int (if (M 170 j) < 0 then (if be < 0 then (nI j) else (if (M 169 be.toNatClampNeg) < (M 169 j) then (nI j) else be)) else be), .int (nI (j + 1))]) 1 i_136_160 rfl rfl ?_
      refine w_goto i_136_163 ?_
      exact (k1 h1)
    refine w_if0n ((M 170 j) < 0) i_136_131 cI0_ge ?_ ?_
    · intro h3
      refine w_load i_136_134 rfl rfl ?_
      refine w_if0 (be < 0) i_136_136 cI0_lt ?_ ?_
      · intro h4
        refine w_load i_136_156 rfl rfl ?_
        refine w_store (l1 := [.ref 134, .int (nI x), .int (nI ii), .int (nI n), .int (bI mo), .int (nI s), .int (nI j), .int (nI j)]) i_136_158 rfl (Nat.le_of_ble_eq_true rfl) rfl ?_
        exact (by first | exact (K2) | (have K9 := K2; simp only [↓if_pos h3, ↓if_pos h4] at K9 ⊢; exact (K9)))
      · intro h5
        refine w_load i_136_139 rfl rfl ?_
        refine w_getR 169 i_136_140 hκ (⟨rfl, by decide⟩ : isOb 134 7) rfl rfl ?_
        refine w_load i_136_143 rfl rfl ?_
        refine w_ialdN (e := j) (v := (M 169 j)) i_136_145 hκ (⟨rfl, rfl, by decide⟩ : isAr 169 10) (by omega) (by decide) (rfl) ?_
        refine w_load i_136_146 rfl rfl ?_
        refine w_getR 169 i_136_147 hκ (⟨rfl, by decide⟩ : isOb 134 7) rfl rfl ?_
        refine w_load i_136_150 rfl rfl ?_
        refine w_iald (v := (M 169 be.toNatClampNeg)) i_136_152 hκ (⟨rfl, rfl, by decide⟩ : isAr 169 10) (o1 h1 h3 h5) (rfl) ?_
        refine w_if2n ((M 169 be.toNatClampNeg) < (M 169 j)) i_136_153 cI_le ?_ ?_
        · intro h6
          refine w_load i_136_156 rfl rfl ?_
          refine w_store (l1 := [.ref 134, .int (nI x), .int (nI ii), .int (nI n), .int (bI mo), .int (nI s), .int (nI j), .int (nI j)]) i_136_158 rfl (Nat.le_of_ble_eq_true rfl) rfl ?_
          exact (by first | exact (K2) | (have K9 := K2; simp only [↓if_pos h3, ↓if_neg h5, ↓if_pos h6] at K9 ⊢; exact (K9)))
        · intro h7
          exact (by first | exact (K2) | (have K9 := K2; simp only [↓if_pos h3, ↓if_neg h5, ↓if_neg h7] at K9 ⊢; exact (K9)))
    · intro h8
      exact (by first | exact (K2) | (have K9 := K2; simp only [↓if_neg h8] at K9 ⊢; exact (K9)))
  · intro h9
    refine w_load i_136_166 rfl rfl ?_
    refine w_if0 (be < 0) i_136_168 cI0_lt ?_ ?_
    · intro h10
      refine w_iincN (n := s) (l1 := [.ref 134, .int (nI x), .int (nI ii), .int (nI n), .int (bI mo), .int (nI (s + 1)), .int be, .int (nI j)]) 1 i_136_179 rfl rfl ?_
      refine w_goto i_136_182 ?_
      exact w_weak (lle_s (lle_s (lle_s (lle_s (lle_s (lle_s (lle_u (lle_u lle_n)))))))) (k2 h9 h10)
    · intro h11
      refine w_load i_136_171 rfl rfl ?_
      refine w_load i_136_172 rfl rfl ?_
      refine w_load i_136_173 rfl rfl ?_
      refine w_load i_136_175 rfl rfl ?_
      exact w_callVI (i := _) i_136_176 ⟨by decide, by decide, by decide, rfl⟩ hκ (⟨rfl, by decide⟩ : isOb 134 7) (av := [.int (nI x), .int be, .int (nI ii)]) (rest := []) rfl rfl (Nat.le_of_ble_eq_true rfl) (k3 h9 h11)
theorem i_136_200 : ins 136 200 = some (.iload 6, 202, 6, 0, 0, 0) := rfl
theorem i_136_202 : ins 136 202 = some (.iload_n 3, 203, 3, 0, 0, 0) := rfl
theorem i_136_203 : ins 136 203 = some (.if_icmp .ge 45, 206, 248, 0, 0, 0) := rfl
theorem i_136_206 : ins 136 206 = some (.iload 5, 208, 5, 0, 0, 0) := rfl
theorem i_136_208 : ins 136 208 = some (.ifCond .eq 31, 211, 239, 0, 0, 0) := rfl
theorem i_136_211 : ins 136 211 = some (.aload_n 0, 212, 0, 0, 0, 0) := rfl
theorem i_136_212 : ins 136 212 = some (.getfield 135, 215, 7, 45, 0, 0) := rfl
theorem i_136_215 : ins 136 215 = some (.iload 6, 217, 6, 0, 0, 0) := rfl
theorem i_136_217 : ins 136 217 = some (.iaload, 218, 0, 0, 0, 0) := rfl
theorem i_136_218 : ins 136 218 = some (.ifCond .lt 21, 221, 239, 0, 0, 0) := rfl
theorem i_136_221 : ins 136 221 = some (.aload_n 0, 222, 0, 0, 0, 0) := rfl
theorem i_136_222 : ins 136 222 = some (.getfield 135, 225, 7, 45, 0, 0) := rfl
theorem i_136_225 : ins 136 225 = some (.iload 6, 227, 6, 0, 0, 0) := rfl
theorem i_136_227 : ins 136 227 = some (.iaload, 228, 0, 0, 0, 0) := rfl
theorem i_136_228 : ins 136 228 = some (.iload_n 2, 229, 2, 0, 0, 0) := rfl
theorem i_136_229 : ins 136 229 = some (.idiv, 230, 0, 0, 0, 0) := rfl
theorem i_136_230 : ins 136 230 = some (.bipush 15, 232, 0, 0, 0, 15) := rfl
theorem i_136_232 : ins 136 232 = some (.if_icmp .gt 7, 235, 239, 0, 0, 0) := rfl
theorem i_136_235 : ins 136 235 = some (.iconst 1, 236, 0, 0, 0, 1) := rfl
theorem i_136_236 : ins 136 236 = some (.goto 4, 239, 240, 0, 0, 0) := rfl
theorem i_136_239 : ins 136 239 = some (.iconst 0, 240, 0, 0, 0, 0) := rfl
theorem i_136_240 : ins 136 240 = some (.istore 5, 242, 5, 0, 0, 0) := rfl
theorem i_136_242 : ins 136 242 = some (.iinc 6 1, 245, 6, 0, 0, 1) := rfl
theorem i_136_245 : ins 136 245 = some (.goto (-45), 248, 200, 0, 0, 0) := rfl
theorem i_136_248 : ins 136 248 = some (.iload 5, 250, 5, 0, 0, 0) := rfl
theorem i_136_250 : ins 136 250 = some (.ireturn, 251, 0, 0, 0, 0) := rfl
theorem S136_200 {Q : Ou → Prop} {M : Mem} {κ : Kp} (hκ : Rd κ) {n j : Nat} (hn : n ≤ 10) (hj : j ≤ n) {ii : Nat} {al : Bool} (b_ii : ii ≤ 100000)
    (o1 : j < n → al = true → ¬ ((M 170 j) < 0) → ¬ (nI ii) = 0)
    (k1 : j < n → RT 136 (200, [.ref 134, UU, .int (nI ii), .int (nI n), UU, .int (bI (if al = true then (if (M 170 j) < 0 then false else (if 15 < ((M 170 j) / (nI ii)) then false else true)) else false)), .int (nI (j + 1)), UU], [], M, κ) Q)
    (k2 : ¬ (j < n) → Q (.inl (some (.int (bI al))), M, κ))
    : RT 136 (200, [.ref 134, UU, .int (nI ii), .int (nI n), UU, .int (bI al), .int (nI j), UU], [], M, κ) Q := by
  refine w_load i_136_200 rfl rfl ?_
  refine w_load i_136_202 rfl rfl ?_
  refine w_if2n (j < n) i_136_203 (cN_ge (a := j) (b := n) (by omega) (by omega)) ?_ ?_
  · intro h1
    refine w_load i_136_206 rfl rfl ?_
    have K2 : RT 136 (240, [.ref 134, UU, .int (nI ii), .int (nI n), UU, .int (bI al), .int (nI j), UU], [.int (bI (if al = true then (if (M 170 j) < 0 then false else (if 15 < ((M 170 j) / (nI ii)) then false else true)) else false))], M, κ) Q := by
      refine w_store (l1 := [.ref 134, UU, .int (nI ii), .int (nI n), UU, .int (bI (if al = true then (if (M 170 j) < 0 then false else (if 15 < ((M 170 j) / (nI ii)) then false else true)) else false)), .int (nI j), UU]) i_136_240 rfl (Nat.le_of_ble_eq_true rfl) rfl ?_
      refine w_iincN (n := j) (l1 := [.ref 134, UU, .int (nI ii), .int (nI n), UU, .int (bI (if al = true then (if (M 170 j) < 0 then false else (if 15 < ((M 170 j) / (nI ii)) then false else true)) else false)), .int (nI (j + 1)), UU]) 1 i_136_242 rfl rfl ?_
      refine w_goto i_136_245 ?_
      exact (k1 h1)
    refine w_if0n (al = true) i_136_208 cB_eq ?_ ?_
    · intro h3
      refine w_load i_136_211 rfl rfl ?_
      refine w_getR 170 i_136_212 hκ (⟨rfl, by decide⟩ : isOb 134 7) rfl rfl ?_
      refine w_load i_136_215 rfl rfl ?_
      refine w_ialdN (e := j) (v := (M 170 j)) i_136_217 hκ (⟨rfl, rfl, by decide⟩ : isAr 170 10) (by omega) (by decide) (rfl) ?_
      refine w_if0 ((M 170 j) < 0) i_136_218 cI0_lt ?_ ?_
      · intro h4
        refine w_push i_136_239 rfl ?_
        exact (by first | exact (K2) | (have K9 := K2; simp only [↓if_pos h3, ↓if_pos h4] at K9 ⊢; exact (K9)))
      · intro h5
        refine w_load i_136_221 rfl rfl ?_
        refine w_getR 170 i_136_222 hκ (⟨rfl, by decide⟩ : isOb 134 7) rfl rfl ?_
        refine w_load i_136_225 rfl rfl ?_
        refine w_ialdN (e := j) (v := (M 170 j)) i_136_227 hκ (⟨rfl, rfl, by decide⟩ : isAr 170 10) (by omega) (by decide) (rfl) ?_
        refine w_load i_136_228 rfl rfl ?_
        refine w_div (w := ((M 170 j) / (nI ii))) i_136_229 rfl (o1 h1 h3 h5) rfl ?_
        refine w_push i_136_230 rfl ?_
        refine w_if2 (15 < ((M 170 j) / (nI ii))) i_136_232 cI_gt ?_ ?_
        · intro h6
          refine w_push i_136_239 rfl ?_
          exact (by first | exact (K2) | (have K9 := K2; simp only [↓if_pos h3, ↓if_neg h5, ↓if_pos h6] at K9 ⊢; exact (K9)))
        · intro h7
          refine w_push i_136_235 rfl ?_
          refine w_goto i_136_236 ?_
          exact (by first | exact (K2) | (have K9 := K2; simp only [↓if_pos h3, ↓if_neg h5, ↓if_neg h7] at K9 ⊢; exact (K9)))
    · intro h8
      refine w_push i_136_239 rfl ?_
      exact (by first | exact (K2) | (have K9 := K2; simp only [↓if_neg h8] at K9 ⊢; exact (K9)))
  · intro h9
    refine w_load i_136_248 rfl rfl ?_
    exact w_iret i_136_250 (.inr ⟨rfl, isB_bI _⟩) (k2 h9)
theorem i_136_35 : ins 136 35 = some (.iload 6, 37, 6, 0, 0, 0) := rfl
theorem i_136_37 : ins 136 37 = some (.iload_n 3, 38, 3, 0, 0, 0) := rfl
theorem i_136_38 : ins 136 38 = some (.if_icmp .ge 40, 41, 78, 0, 0, 0) := rfl
theorem i_136_41 : ins 136 41 = some (.aload_n 0, 42, 0, 0, 0, 0) := rfl
theorem i_136_42 : ins 136 42 = some (.getfield 132, 45, 7, 44, 0, 0) := rfl
theorem i_136_45 : ins 136 45 = some (.iload 5, 47, 5, 0, 0, 0) := rfl
theorem i_136_47 : ins 136 47 = some (.aload_n 0, 48, 0, 0, 0, 0) := rfl
theorem i_136_48 : ins 136 48 = some (.aload_n 0, 49, 0, 0, 0, 0) := rfl
theorem i_136_49 : ins 136 49 = some (.getfield 132, 52, 7, 44, 0, 0) := rfl
theorem i_136_52 : ins 136 52 = some (.iload 5, 54, 5, 0, 0, 0) := rfl
theorem i_136_54 : ins 136 54 = some (.iaload, 55, 0, 0, 0, 0) := rfl
theorem i_136_55 : ins 136 55 = some (.aload_n 0, 56, 0, 0, 0, 0) := rfl
theorem i_136_56 : ins 136 56 = some (.getfield 129, 59, 7, 43, 0, 0) := rfl
theorem i_136_59 : ins 136 59 = some (.bipush 10, 61, 0, 0, 0, 10) := rfl
theorem i_136_61 : ins 136 61 = some (.iload 5, 63, 5, 0, 0, 0) := rfl
theorem i_136_63 : ins 136 63 = some (.imul, 64, 0, 0, 0, 0) := rfl
theorem i_136_64 : ins 136 64 = some (.iload 6, 66, 6, 0, 0, 0) := rfl
theorem i_136_66 : ins 136 66 = some (.iadd, 67, 0, 0, 0, 0) := rfl
theorem i_136_67 : ins 136 67 = some (.iaload, 68, 0, 0, 0, 0) := rfl
theorem i_136_68 : ins 136 68 = some (.invokevirtual 233, 71, 121, 0, 3, 0) := rfl
theorem i_136_71 : ins 136 71 = some (.iastore, 72, 0, 0, 0, 0) := rfl
theorem i_136_72 : ins 136 72 = some (.iinc 6 1, 75, 6, 0, 0, 1) := rfl
theorem i_136_75 : ins 136 75 = some (.goto (-40), 78, 35, 0, 0, 0) := rfl
theorem i_136_78 : ins 136 78 = some (.aload_n 0, 79, 0, 0, 0, 0) := rfl
theorem i_136_79 : ins 136 79 = some (.getfield 135, 82, 7, 45, 0, 0) := rfl
theorem i_136_82 : ins 136 82 = some (.iload 5, 84, 5, 0, 0, 0) := rfl
theorem i_136_84 : ins 136 84 = some (.iconst (-1), 85, 0, 0, 0, (-1)) := rfl
theorem i_136_85 : ins 136 85 = some (.iastore, 86, 0, 0, 0, 0) := rfl
theorem i_136_86 : ins 136 86 = some (.aload_n 0, 87, 0, 0, 0, 0) := rfl
theorem i_136_87 : ins 136 87 = some (.getfield 138, 90, 7, 46, 0, 0) := rfl
theorem i_136_90 : ins 136 90 = some (.iload 5, 92, 5, 0, 0, 0) := rfl
theorem i_136_92 : ins 136 92 = some (.iconst (-1), 93, 0, 0, 0, (-1)) := rfl
theorem i_136_93 : ins 136 93 = some (.iastore, 94, 0, 0, 0, 0) := rfl
theorem i_136_94 : ins 136 94 = some (.iinc 5 1, 97, 5, 0, 0, 1) := rfl
theorem i_136_97 : ins 136 97 = some (.goto (-79), 100, 18, 0, 0, 0) := rfl
theorem S136_35 {Q : Ou → Prop} {M : Mem} {κ : Kp} (hκ : Rd κ) {x n i j : Nat} (hx : x < 6) (hn : n ≤ 10) (hi : i < n) (hj : j ≤ n) {ii : Nat} {mo : Bool} (b_ii : ii ≤ 100000)
    (k1 : j < n → RT 136 (35, [.ref 134, .int (nI x), .int (nI ii), .int (nI n), .int (bI mo), .int (nI i), .int (nI (j + 1)), UU], [], (stM M 169 i (mx (M 169 i) (M 168 ((10 * i) + j)))), κ) Q)
    (k2 : ¬ (j < n) → RT 136 (18, [.ref 134, .int (nI x), .int (nI ii), .int (nI n), .int (bI mo), .int (nI (i + 1)), UU, UU], [], (stM (stM M 170 i (-1)) 171 i (-1)), κ) Q)
    : RT 136 (35, [.ref 134, .int (nI x), .int (nI ii), .int (nI n), .int (bI mo), .int (nI i), .int (nI j), UU], [], M, κ) Q := by
  refine w_load i_136_35 rfl rfl ?_
  refine w_load i_136_37 rfl rfl ?_
  refine w_if2n (j < n) i_136_38 (cN_ge (a := j) (b := n) (by omega) (by omega)) ?_ ?_
  · intro h1
    refine w_load i_136_41 rfl rfl ?_
    refine w_getR 169 i_136_42 hκ (⟨rfl, by decide⟩ : isOb 134 7) rfl rfl ?_
    refine w_load i_136_45 rfl rfl ?_
    refine w_load i_136_47 rfl rfl ?_
    refine w_load i_136_48 rfl rfl ?_
    refine w_getR 169 i_136_49 hκ (⟨rfl, by decide⟩ : isOb 134 7) rfl rfl ?_
    refine w_load i_136_52 rfl rfl ?_
    refine w_ialdN (e := i) (v := (M 169 i)) i_136_54 hκ (⟨rfl, rfl, by decide⟩ : isAr 169 10) (by omega) (by decide) (rfl) ?_
    refine w_load i_136_55 rfl rfl ?_
    refine w_getR 168 i_136_56 hκ (⟨rfl, by decide⟩ : isOb 134 7) rfl rfl ?_
    refine w_push i_136_59 rfl ?_
    refine w_load i_136_61 rfl rfl ?_
    refine w_bin (w := (nI (10 * i))) i_136_63 rfl (nI_mul 10 i) ?_
    refine w_load i_136_64 rfl rfl ?_
    refine w_bin (w := (nI ((10 * i) + j))) i_136_66 rfl (nI_add (10 * i) j) ?_
    refine w_ialdN (e := ((10 * i) + j)) (v := (M 168 ((10 * i) + j))) i_136_67 hκ (⟨rfl, rfl, by decide⟩ : isAr 168 100) (by omega) (by decide) (rfl) ?_
    refine w_callV (i := _) i_136_68 ⟨by decide, by decide, by decide, rfl⟩ hκ (⟨rfl, by decide⟩ : isOb 134 7) (av := [.int (M 169 i), .int (M 168 ((10 * i) + j))]) (rest := [.int (nI i), .ref 169]) rfl rfl (Nat.le_of_ble_eq_true rfl) (v := some (.int (mx (M 169 i) (M 168 ((10 * i) + j))))) (c121 hκ) ?_
    refine w_iastN (e := i) i_136_71 hκ (⟨rfl, rfl, by decide⟩ : isAr 169 10) (by omega) (by decide) ?_
    refine w_iincN (n := j) (l1 := [.ref 134, .int (nI x), .int (nI ii), .int (nI n), .int (bI mo), .int (nI i), .int (nI (j + 1)), UU]) 1 i_136_72 rfl rfl ?_
    refine w_goto i_136_75 ?_
    exact (k1 h1)
  · intro h2
    refine w_load i_136_78 rfl rfl ?_
    refine w_getR 170 i_136_79 hκ (⟨rfl, by decide⟩ : isOb 134 7) rfl rfl ?_
    refine w_load i_136_82 rfl rfl ?_
    refine w_push i_136_84 rfl ?_
    refine w_iastN (e := i) i_136_85 hκ (⟨rfl, rfl, by decide⟩ : isAr 170 10) (by omega) (by decide) ?_
    refine w_load i_136_86 rfl rfl ?_
    refine w_getR 171 i_136_87 hκ (⟨rfl, by decide⟩ : isOb 134 7) rfl rfl ?_
    refine w_load i_136_90 rfl rfl ?_
    refine w_push i_136_92 rfl ?_
    refine w_iastN (e := i) i_136_93 hκ (⟨rfl, rfl, by decide⟩ : isAr 171 10) (by omega) (by decide) ?_
    refine w_iincN (n := i) (l1 := [.ref 134, .int (nI x), .int (nI ii), .int (nI n), .int (bI mo), .int (nI (i + 1)), .int (nI j), UU]) 1 i_136_94 rfl rfl ?_
    refine w_goto i_136_97 ?_
    exact w_weak (lle_s (lle_s (lle_s (lle_s (lle_s (lle_s (lle_u (lle_s lle_n)))))))) (k2 h2)
theorem S136_179 {Q : Ou → Prop} {M : Mem} {κ : Kp} (hκ : Rd κ) {x n : Nat} (hx : x < 6) (hn : n ≤ 10) {ii : Nat} {mo : Bool} {s : Nat} (b_ii : ii ≤ 100000) (b_s : s ≤ 100000)
    (k1 : RT 136 (103, [.ref 134, .int (nI x), .int (nI ii), .int (nI n), .int (bI mo), .int (nI (s + 1)), UU, UU], [], M, κ) Q)
    : RT 136 (179, [.ref 134, .int (nI x), .int (nI ii), .int (nI n), .int (bI mo), .int (nI s), UU, UU], [], M, κ) Q := by
  refine w_iincN (n := s) (l1 := [.ref 134, .int (nI x), .int (nI ii), .int (nI n), .int (bI mo), .int (nI (s + 1)), UU, UU]) 1 i_136_179 rfl rfl ?_
  refine w_goto i_136_182 ?_
  exact (k1)
variable {Q : Ou → Prop} {M M0 : Mem} {κ : Kp}
/-- what asks answers -/
def Aas7 (κ : Kp) (n : Nat) (W : Nat → Nat → Option Int32) (ii : Nat) (M0 : Mem) : Prop := ∀ M, (∀ o x, 165 ≤ o ∧ o ≤ 167 → M o x = M0 o x) → ∀ i j, i < n → j < n → Run 127 (0, entL 127 [.ref 134, .int (nI i), .int (nI j), .int (nI ii)], [], M, κ) (.inl (some (.int (enc (-100000) (W i j)))), M, κ)
theorem Aas7_eq {n ii : Nat} {W : Nat → Nat → Option Int32} (h : Aas7 κ n W ii M0) (he : ∀ o x, 165 ≤ o ∧ o ≤ 167 → M o x = M0 o x) : Aas7 κ n W ii M := fun M' h' => h M' (fun o x ho => (h' o x ho).trans (he o x ho))
section MM
variable {n x : Nat} {W : Nat → Nat → Option Int32} {P : Nat → Int32} {O : Op} {U : Bool → Nat} {ii : Nat} {c hd : Nat → Int32} {k : Nat}
abbrev PO (O : Op) : Nat → Bool := fun k => isP (O 0 k)
theorem c134 (hκ : Rd κ) {i2 row : Int32} (hi2 : ¬ i2 = 0) (hx : x < 6) (hn : n ≤ 10) (hk : k < n) (hc : M 151 x = nI n) (hO : ∀ f, f < 6 → ∀ j, j < n → M (152 + f) (10 * x + j) = O f j) (hcy : ∀ i, i < n → M 170 i = c i) (hcc : ∀ i, i < n → cyc (c i)) : Run 134 (0, entL 134 [.ref 134, .int (nI x), .int (nI k), .int row, .int i2], [], M, κ) (.inl (some (.int (nI (crw (PO O) c i2 k row n)))), M, κ) := by
  refine RT_run (S134_0 (j := 0) hκ hx hn hk (by omega) hc hO ?_)
  refine loopI (n := n) (fun j us => RT 134 (6, [.ref 134, .int (nI x), .int (nI k), .int row, .int i2, .int (nI us), .int (nI j)], [], M, κ) _) (fun j us => us = crw (PO O) c i2 k row j) (fun j us hj hI ih => ?_) (fun us hI => ?_) 0 0 (Nat.zero_le _) rfl
  · have hl := crw_le (Pt := PO O) (c := c) (k := k) (i2 := i2) (row := row) j
    refine S134_6 hκ hx hn hk (by omega) hc hO (by omega) (fun _ _ => hi2) (fun _ => ih _ ?_) (fun z => absurd hj z)
    rw [hI, crw, hcy j hj]
    congr 1
    unfold tkn
    by_cases q : c j = -1
    · rw [if_pos ((cyc_neg (hcc j hj)).mpr q), decide_eq_false (fun z => z q)]
      rfl
    · rw [if_neg (fun z => q ((cyc_neg (hcc j hj)).mp z)), decide_eq_true q, Bool.true_and]
      by_cases q2 : rm (c j) i2 = row
      · rw [if_pos q2, decide_eq_true q2, Bool.true_and]
        by_cases q3 : isP (O 0 j) = isP (O 0 k)
        · rw [if_pos (by rw [q3]), if_pos (decide_eq_true q3)]
        · rw [if_neg (fun z => q3 (bI_inj z)), if_neg (fun z => q3 (of_decide_eq_true z))]
      · rw [if_neg q2, decide_eq_false q2]
        rfl
  · have hl := crw_le (Pt := PO O) (c := c) (k := k) (i2 := i2) (row := row) n
    refine S134_6 hκ hx hn hk (Nat.le_refl _) hc hO (by omega) (fun z => absurd z (Nat.lt_irrefl _)) (fun z => absurd z (Nat.lt_irrefl _)) (fun _ => ?_)
    rw [hI]
theorem c135 (hκ : Rd κ) {i2 row : Int32} (hi2 : ¬ i2 = 0) (hx : x < 6) (hn : n ≤ 10) (hk : k < n) (hc : M 151 x = nI n) (hO : ∀ f, f < 6 → ∀ j, j < n → M (152 + f) (10 * x + j) = O f j) (hcy : ∀ i, i < n → M 170 i = c i) (hcc : ∀ i, i < n → cyc (c i)) (hP : ∀ i, i < n → M 169 i = P i) : Run 135 (0, entL 135 [.ref 134, .int (nI x), .int (nI k), .int row, .int i2], [], M, κ) (.inl none, (match wst P (PO O) c i2 k row n with | none => M | some b => stM M 170 b (-1)), κ) := by
  refine RT_run (S135_0 (j := 0) hκ hx hn hk (by omega) hc hO ?_)
  refine loopI (n := n) (fun j wo => RT 135 (6, [.ref 134, .int (nI x), .int (nI k), .int row, .int i2, .int wo, .int (nI j), UU], [], M, κ) _) (fun j wo => wo = eo (wst P (PO O) c i2 k row j)) (fun j wo hj hI ih => ?_) (fun wo hI => ?_) 0 _ (Nat.zero_le _) rfl
  · have etk : (if (M 170 j) < 0 then false else (if (rm (M 170 j) i2) = row then (if (bI (isP (O 0 j))) = (bI (isP (O 0 k))) then true else false) else false)) = tkn (PO O) c i2 k row j := by
      rw [hcy j hj]
      unfold tkn
      by_cases q : c j = -1
      · rw [if_pos ((cyc_neg (hcc j hj)).mpr q), decide_eq_false (fun z => z q)]
        rfl
      · rw [if_neg (fun z => q ((cyc_neg (hcc j hj)).mp z)), decide_eq_true q, Bool.true_and]
        by_cases q2 : rm (c j) i2 = row
        · rw [if_pos q2, decide_eq_true q2, Bool.true_and]
          by_cases q3 : isP (O 0 j) = isP (O 0 k)
          · rw [if_pos (by rw [q3]), decide_eq_true q3]
          · rw [if_neg (fun z => q3 (bI_inj z)), decide_eq_false q3]
        · rw [if_neg q2, decide_eq_false q2]
          rfl
    have hlt : ∀ b, wst P (PO O) c i2 k row j = some b → b < 10 := fun b q => by
      have := wst_lt j b q
      omega
    refine S135_6 hκ hx hn hk (by omega) hc hO (fun _ _ hb => ?_) (fun _ _ => hi2) (fun z => absurd hj z) (fun _ => ih _ ?_) (fun z => absurd hj z)
    · rw [hI] at hb ⊢
      cases q : wst P (PO O) c i2 k row j with
      | none => rw [q] at hb; exact absurd m1_lt hb
      | some b => exact vp_in_nI (hlt b q) (by decide)
    · rw [etk, hI, wst]
      by_cases h1 : tkn (PO O) c i2 k row j = true
      · rw [if_pos h1, if_pos h1]
        cases q : wst P (PO O) c i2 k row j with
        | none => exact if_pos m1_lt
        | some b =>
          have hb := hlt b q
          show (if nI b < 0 then nI j else if M 169 (nI b).toNatClampNeg < M 169 j then nI b else nI j) = _
          rw [if_neg (by rw [ltI, nI_toInt (by omega), c0]; omega), nI_clamp (by omega), hP b (by have := wst_lt j b q; omega), hP j hj]
          dsimp only
          split <;> rfl
      · rw [if_neg h1, if_neg h1]
  · have hlt : ∀ b, wst P (PO O) c i2 k row n = some b → b < 10 := fun b q => by
      have := wst_lt n b q
      omega
    refine S135_6 hκ hx hn hk (Nat.le_refl _) hc hO (fun z => absurd z (Nat.lt_irrefl _)) (fun z => absurd z (Nat.lt_irrefl _)) (fun _ hb => ?_) (fun z => absurd z (Nat.lt_irrefl _)) (fun _ => ?_)
    · rw [hI] at hb ⊢
      cases q : wst P (PO O) c i2 k row n with
      | none => rw [q] at hb; exact absurd m1_lt hb
      | some b => exact vp_in_nI (hlt b q) (by decide)
    · rw [hI]
      cases q : wst P (PO O) c i2 k row n with
      | none =>
        show (Sum.inl none, (if (-1 : Int32) < 0 then M else _), κ) = _
        rw [if_pos m1_lt]
      | some b =>
        have hb := hlt b q
        show (Sum.inl none, (if nI b < 0 then M else stM M 170 (nI b).toNatClampNeg (-1)), κ) = _
        rw [if_neg (by rw [ltI, nI_toInt (by omega), c0]; omega), nI_clamp (by omega)]
theorem l137 (hκ : Rd κ) {a : Int32} (hx : x < 6) (hk : k < n) (hn : n ≤ 10) (hc : M 151 x = nI n) (hii : ii ≤ 1000) (hA : Aas7 κ n W ii M) (hr : Wrg n W) (hcy : ∀ i, i < n → M 170 i = c i) (hhd : ∀ i, i < n → M 171 i = hd i) (hcc : ∀ i, i < n → cyc (up c k a i))
    (K : ∀ M', (∀ o x, ¬ (o = 170 ∨ o = 171) → M' o x = M o x) → (∀ i, i < n → M' 170 i = evi n W (up c k a) k a i) → (∀ i, i < n → M' 171 i = up hd k a i) → Q (.inl none, M', κ)) :
    RT 137 (187, [.ref 134, .int (nI x), .int (nI k), .int (nI ii), UU, .int a, .int (nI 0)], [], (stM (stM M 170 k a) 171 k a), κ) Q := by
  refine loopI (n := n) (fun j M' => RT 137 (187, [.ref 134, .int (nI x), .int (nI k), .int (nI ii), UU, .int a, .int (nI j)], [], M', κ) Q) (fun j M' => (∀ o x, ¬ (o = 170 ∨ o = 171) → M' o x = M o x) ∧ (∀ i, i < n → M' 170 i = if i < j ∧ evb W (up c k a) k a i = true then -1 else up c k a i) ∧ (∀ i, i < n → M' 171 i = up hd k a i)) (fun j M' hj hI ih => ?_) (fun M' hI => ?_) 0 _ (Nat.zero_le _) ⟨fun o x h => ?_, fun i hi => ?_, fun i hi => ?_⟩
  · obtain ⟨h1, h2, h3⟩ := hI
    have hA' : Aas7 κ n W ii M' := Aas7_eq hA (fun o x h => h1 o x (by omega))
    refine S137_187 (r_219 := enc (-100000) (W k j)) (r_234 := enc (-100000) (W k j)) hκ hx hn hk (by omega) ((h1 _ _ (by omega)).trans hc) (by omega) (fun _ _ _ => hA' M' (fun _ _ _ => rfl) k j hk hj) (fun _ _ _ _ => hA' M' (fun _ _ _ => rfl) k j hk hj) (fun _ => ?_) (fun z => absurd hj z)
    have e : (if j = k then M' else (if (M' 170 j) < 0 then M' else (if (-100000) < enc (-100000) (W k j) then (if (M' 170 j) < (a + enc (-100000) (W k j)) then (stM M' 170 j (-1)) else M') else M'))) = if evb W (up c k a) k a j = true then stM M' 170 j (-1) else M' := by
      have hj2 := h2 j hj
      rw [if_neg (fun z => absurd z.1 (Nat.lt_irrefl j))] at hj2
      rw [hj2]
      have ho := Wrg_M hr hk hj
      unfold evb
      cases q : W k j with
      | none =>
        rw [if_neg (show ¬ (-100000 : Int32) < enc (-100000) none by decide), ite_self, ite_self, if_neg (show ¬ false = true from Bool.false_ne_true)]
      | some w =>
        rw [q] at ho
        rw [if_pos (show (-100000 : Int32) < enc (-100000) (some w) from ltI.mpr (ho w rfl))]
        show _ = if (decide (¬ j = k) && decide (¬ up c k a j = -1) && decide (up c k a j < a + w)) = true then _ else _
        by_cases q1 : j = k
        · rw [if_pos q1, decide_eq_false (fun z => z q1)]
          rfl
        · rw [if_neg q1, decide_eq_true q1, Bool.true_and]
          by_cases q2 : up c k a j = -1
          · rw [if_pos ((cyc_neg (hcc j hj)).mpr q2), decide_eq_false (fun z => z q2)]
            rfl
          · rw [if_neg (fun z => q2 ((cyc_neg (hcc j hj)).mp z)), decide_eq_true q2, Bool.true_and]
            show (if up c k a j < a + w then _ else _) = _
            by_cases q3 : up c k a j < a + w
            · rw [if_pos q3, if_pos (decide_eq_true q3)]
            · rw [if_neg q3, if_neg (fun z => q3 (of_decide_eq_true z))]
    rw [e]
    by_cases q : evb W (up c k a) k a j = true
    · rw [if_pos q]
      refine ih _ ⟨fun o x h => (stM_o (by omega)).trans (h1 o x h), fun i hi => ?_, fun i hi => (stM_o (by omega)).trans (h3 i hi)⟩
      by_cases e2 : i = j
      · rw [e2, stM_s, if_pos ⟨Nat.lt_succ_self j, q⟩]
      · rw [stM_j e2, h2 i hi]
        have : (i < j ∧ evb W (up c k a) k a i = true) ↔ (i < j + 1 ∧ evb W (up c k a) k a i = true) := ⟨fun z => ⟨by omega, z.2⟩, fun z => ⟨by omega, z.2⟩⟩
        simp only [this]
    · rw [if_neg q]
      refine ih _ ⟨h1, fun i hi => ?_, h3⟩
      rw [h2 i hi]
      by_cases e2 : i = j
      · rw [e2, if_neg (fun z => absurd z.1 (Nat.lt_irrefl j)), if_neg (fun z => q z.2)]
      · have : (i < j ∧ evb W (up c k a) k a i = true) ↔ (i < j + 1 ∧ evb W (up c k a) k a i = true) := ⟨fun z => ⟨by omega, z.2⟩, fun z => ⟨by omega, z.2⟩⟩
        simp only [this]
  · obtain ⟨h1, h2, h3⟩ := hI
    exact S137_187 (r_219 := 0) (r_234 := 0) hκ hx hn hk (Nat.le_refl _) ((h1 _ _ (by omega)).trans hc) (by omega) (fun z => absurd z (Nat.lt_irrefl _)) (fun z => absurd z (Nat.lt_irrefl _)) (fun z => absurd z (Nat.lt_irrefl _)) (fun _ => K M' h1 h2 h3)
  · rw [stM_n (by omega), stM_n (by omega)]
  · rw [if_neg (fun z => absurd z.1 (Nat.not_lt_zero i)), stM_o (by omega)]
    by_cases e : i = k
    · rw [e, stM_s, up_s]
    · rw [stM_j e, up_o e]
      exact hcy i hi
  · by_cases e : i = k
    · rw [e, stM_s, up_s]
    · rw [stM_j e, up_o e, stM_o (by omega)]
      exact hhd i hi
theorem f137 (hκ : Rd κ) {B : Nat} (hx : x < 6) (hk : k < n) (hn : n ≤ 10) (hB : B ≤ 40000) (hii : ii ≤ 80) (hi0 : 1 ≤ ii) (hc : M 151 x = nI n) (hal : M 134 1 = nI (U false)) (hpo : M 134 2 = nI (U true)) (hU : ∀ b, U b ≤ 10) (hO : ∀ f, f < 6 → ∀ j, j < n → M (152 + f) (10 * x + j) = O f j) (hA : Aas7 κ n W ii M) (hr : Wrg n W) (hP : ∀ i, i < n → M 169 i = P i) (hcy : ∀ i, i < n → M 170 i = c i) (hhd : ∀ i, i < n → M 171 i = hd i) (hcB : ∀ i, i < n → cyB B (c i)) (hhB : ∀ i, i < n → cyB B (hd i))
    (K : ∀ M', (∀ o x, ¬ (o = 170 ∨ o = 171) → M' o x = M o x) → (∀ i, i < n → M' 170 i = msC n W P (PO O) U ii c hd k i) → (∀ i, i < n → M' 171 i = up hd k (msA n W (PO O) U ii c hd k) i) → Q (.inl none, M', κ)) :
    RT 137 (0, entL 137 [.ref 134, .int (nI x), .int (nI k), .int (nI ii)], [], M, κ) Q := by
  have he := erl_rng (k := k) hr hk (by omega) hcB
  have hcc : ∀ i, i < n → cyc (c i) := fun i hi => cyB_cyc (hcB i hi) (by omega)
  have hcl := clampI he.1
  have hi2 : ¬ nI ii = 0 := fun z => by
    have := (nI_eq (b := 0) (by omega) (by omega)).mp z
    omega
  have hA1 : msA n W (PO O) U ii c hd k = if ffN n (PO O) U c ii k (erl W c k n).toNatClampNeg < (erl W c k n).toNatClampNeg + ii then nI (ffN n (PO O) U c ii k (erl W c k n).toNatClampNeg) else if hd k = -1 then erl W c k n else if hd k < erl W c k n then erl W c k n else hd k + 1 := rfl
  have hC : msC n W P (PO O) U ii c hd k = evi n W (up (if ffN n (PO O) U c ii k (erl W c k n).toNatClampNeg < (erl W c k n).toNatClampNeg + ii then c else drF n P (PO O) c (nI ii) k (rm (msA n W (PO O) U ii c hd k) (nI ii))) k (msA n W (PO O) U ii c hd k)) k (msA n W (PO O) U ii c hd k) := rfl
  have hAr := msA_rng (Pt := PO O) (U := U) hr hk (by omega) hii hcB hhB
  refine S137_0 hκ hx (by omega) (by omega) ?_
  refine loopI (n := n) (fun j e => RT 137 (6, [.ref 134, .int (nI x), .int (nI k), .int (nI ii), .int e, .int (nI j), UU], [], M, κ) Q) (fun j e => e = fo (fun i m => ow (W i k) m (fun w => if c i = -1 then m else mx m (c i + w))) 0 j) (fun j e hj hI ih => ?_) (fun e hI => ?_) 0 0 (Nat.zero_le _) rfl
  · refine S137_6 (r_32 := enc (-100000) (W j k)) (r_55 := enc (-100000) (W j k)) hκ hx hn hk (by omega) hc (by omega) (fun _ _ => hA M (fun _ _ _ => rfl) j k hj hk) (fun _ _ _ => hA M (fun _ _ _ => rfl) j k hj hk) (fun _ => ih _ ?_) (fun z => absurd hj z)
    rw [fo_suc, ← hI, hcy j hj]
    have ho := Wrg_M hr hj hk
    cases q : W j k with
    | none =>
      show (if c j < 0 then e else if (-100000 : Int32) < -100000 then _ else e) = e
      rw [if_neg (show ¬ (-100000 : Int32) < -100000 by decide), ite_self]
    | some w =>
      rw [q] at ho
      have ho := ho w rfl
      show (if c j < 0 then e else if (-100000 : Int32) < w then mx e (c j + w) else e) = (if c j = -1 then e else mx e (c j + w))
      rw [if_pos (ltI.mpr ho)]
      by_cases q2 : c j = -1
      · rw [if_pos q2, if_pos ((cyc_neg (hcc j hj)).mpr q2)]
      · rw [if_neg q2, if_neg (fun z => q2 ((cyc_neg (hcc j hj)).mp z))]
  · refine S137_6 (r_32 := 0) (r_55 := 0) hκ hx hn hk (Nat.le_refl _) hc (by omega) (fun z => absurd z (Nat.lt_irrefl _)) (fun z => absurd z (Nat.lt_irrefl _)) (fun z => absurd z (Nat.lt_irrefl _)) (fun _ => ?_)
    have heq : e = erl W c k n := hI
    rw [heq]
    have e9 : nI (erl W c k n).toNatClampNeg = erl W c k n := nI_ofI he.1
    obtain ⟨eN, heN⟩ : ∃ eN, eN = (erl W c k n).toNatClampNeg := ⟨_, rfl⟩
    rw [← heN] at e9 hcl hA1 hC
    rw [← e9]
    rw [← e9] at hA1
    -- the search
    have hff := srN_ge (fun a => decide (crw (PO O) c (nI ii) k (rm (nI a) (nI ii)) n < U (PO O k))) ii eN
    have main : ∀ d a, a + d = eN + ii → eN ≤ a → ffN n (PO O) U c ii k eN = srN (fun a => decide (crw (PO O) c (nI ii) k (rm (nI a) (nI ii)) n < U (PO O k))) d a → RT 137 (74, [.ref 134, .int (nI x), .int (nI k), .int (nI ii), .int (nI eN), .int (nI a), UU], [], M, κ) Q := by
      have stop : ∀ a, a ≤ eN + ii → eN ≤ a → ffN n (PO O) U c ii k eN = a → (a = eN + ii → RT 135 (0, entL 135 [.ref 134, .int (nI x), .int (nI k), .int (rm (if (M 171 k) < 0 then (nI eN) else (if (M 171 k) < (nI eN) then (nI eN) else ((M 171 k) + 1))) (nI ii)), .int (nI ii)], [], M, κ) (fun o => ∃ v M1 κ1, o = (.inl v, M1, κ1) ∧ RT 137 (168, [.ref 134, .int (nI x), .int (nI k), .int (nI ii), .int (nI eN), .int (if (M 171 k) < 0 then (nI eN) else (if (M 171 k) < (nI eN) then (nI eN) else ((M 171 k) + 1))), UU], v.toList ++ [], M1, κ1) Q)) ∧ (¬ a = eN + ii → RT 137 (187, [.ref 134, .int (nI x), .int (nI k), .int (nI ii), UU, .int (nI a), .int (nI 0)], [], (stM (stM M 170 k (nI a)) 171 k (nI a)), κ) Q) := by
        intro a ha hea hf
        rw [hf] at hA1 hC
        refine ⟨fun h => ?_, fun h => ?_⟩
        · have hno : ¬ a < eN + ii := by omega
          rw [if_neg hno] at hA1 hC
          have hh0 : hd k < 0 ↔ hd k = -1 := cyc_neg (cyB_cyc (hhB k hk) (by omega))
          have eat : (if (M 171 k) < 0 then (nI eN) else (if (M 171 k) < (nI eN) then (nI eN) else ((M 171 k) + 1))) = msA n W (PO O) U ii c hd k := by
            rw [hA1, hhd k hk]
            by_cases q : hd k = -1
            · rw [if_pos q, if_pos (hh0.mpr q)]
            · rw [if_neg q, if_neg (fun z => q (hh0.mp z))]
          rw [eat]
          refine RT_of (c135 (P := P) hκ hi2 hx hn hk hc hO hcy hcc hP) ⟨none, _, κ, rfl, ?_⟩
          rw [hC] at K
          generalize msA n W (PO O) U ii c hd k = a at K hAr ⊢
          have hgo : ∀ M1, (∀ o x, ¬ (o = 170) → M1 o x = M o x) → (∀ i, i < n → M1 170 i = drF n P (PO O) c (nI ii) k (rm a (nI ii)) i) → RT 137 (168, [.ref 134, .int (nI x), .int (nI k), .int (nI ii), .int (nI eN), .int a, UU], [], M1, κ) Q := by
            intro M1 g1 g2
            refine w_weak (lle_s (lle_s (lle_s (lle_s (lle_u (lle_s (lle_s lle_n))))))) (S137_168 hκ hx hn hk (by omega) ?_)
            refine l137 hκ hx hk hn ((g1 _ _ (by omega)).trans hc) (by omega) (Aas7_eq hA (fun o x h => g1 o x (by omega))) hr g2 (fun i hi => (g1 _ _ (by omega)).trans (hhd i hi)) (fun i hi => ?_) (fun M' k1 k2 k3 => K M' (fun o x h => (k1 o x h).trans (g1 o x (by omega))) k2 k3)
            by_cases e : i = k
            · rw [e, up_s]
              obtain ⟨z, z1, z2⟩ := hAr
              exact .inr ⟨z, by omega, z2⟩
            · rw [up_o e]
              exact cyB_cyc (drF_rng hcB i hi) (by omega)
          cases q : wst P (PO O) c (nI ii) k (rm a (nI ii)) n with
          | none =>
            refine hgo M (fun _ _ _ => rfl) (fun i hi => ?_)
            rw [hcy i hi, drF, q]
          | some b =>
            refine hgo _ (fun o x h => stM_o h) (fun i hi => ?_)
            rw [drF, q]
            show stM M 170 b (-1) 170 i = up c b (-1) i
            by_cases e : i = b
            · rw [e, stM_s, up_s]
            · rw [stM_j e, up_o e]
              exact hcy i hi
        · have hyes : a < eN + ii := by omega
          rw [if_pos hyes] at hA1 hC
          rw [← hA1]
          rw [hC] at K
          refine l137 hκ hx hk hn hc (by omega) hA hr hcy hhd (fun i hi => ?_) K
          by_cases e : i = k
          · rw [e, up_s]
            obtain ⟨z, z1, z2⟩ := hAr
            exact .inr ⟨z, by omega, z2⟩
          · rw [up_o e]
            exact hcc i hi
      intro d
      induction d with
      | zero =>
        intro a ha hea hf
        have hst := stop a (by omega) hea hf
        exact S137_74 (r_91 := 0) hκ hx hn hk hc hal hpo hO (by omega) (by omega) (by omega) (fun _ _ => hi2) (fun z => absurd z (by omega)) (fun z => absurd z (by omega)) (fun _ => hst.1) (fun _ => hst.2) (fun z => absurd z (by omega))
      | succ d ih =>
        intro a ha hea hf
        have hl := crw_le (Pt := PO O) (c := c) (k := k) (i2 := nI ii) (row := rm (nI a) (nI ii)) n
        have hun : (nI (crw (PO O) c (nI ii) k (rm (nI a) (nI ii)) n) < (if isP (O 0 k) = true then nI (U true) else nI (U false))) ↔ crw (PO O) c (nI ii) k (rm (nI a) (nI ii)) n < U (PO O k) := by
          have u1 := hU true
          have u2 := hU false
          show _ ↔ _ < U (isP (O 0 k))
          cases isP (O 0 k) with
          | true => exact nI_ltI (by omega) (by omega)
          | false => exact nI_ltI (by omega) (by omega)
        refine S137_74 (r_91 := crw (PO O) c (nI ii) k (rm (nI a) (nI ii)) n) hκ hx hn hk hc hal hpo hO (by omega) (by omega) (by omega) (fun _ _ => hi2) (fun _ => hi2) (fun _ => c134 hκ hi2 hx hn hk hc hO hcy hcc) (fun z1 z2 => absurd z2 (by omega)) (fun h h2 => ?_) (fun _ h => ih (a + 1) (by omega) (by omega) ?_)
        · have h3 : crw (PO O) c (nI ii) k (rm (nI a) (nI ii)) n < U (PO O k) := by
            rcases h with h | h
            · exact hun.mp h.2
            · omega
          rw [srN, if_pos (show (fun a => decide (crw (PO O) c (nI ii) k (rm (nI a) (nI ii)) n < U (PO O k))) a = true from decide_eq_true h3)] at hf
          exact (stop a (by omega) hea hf).2 h2
        · rw [srN, if_neg (show ¬ (fun a => decide (crw (PO O) c (nI ii) k (rm (nI a) (nI ii)) n < U (PO O k))) a = true from fun z => h (hun.mpr (of_decide_eq_true z)))] at hf
          exact hf
    exact main ii eN rfl (Nat.le_refl eN) rfl
end MM
end P_34_tries
