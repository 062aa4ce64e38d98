/-! LISTS: the model schedules -/
section P_31_list3
theorem i_132_0 : ins 132 0 = some (.aload_n 0, 1, 0, 0, 0, 0) := rfl
theorem i_132_1 : ins 132 1 = some (.getfield 78, 4, 7, 26, 0, 0) := rfl
theorem i_132_4 : ins 132 4 = some (.iload_n 1, 5, 1, 0, 0, 0) := rfl
theorem i_132_5 : ins 132 5 = some (.iaload, 6, 0, 0, 0, 0) := rfl
theorem i_132_6 : ins 132 6 = some (.istore_n 2, 7, 2, 0, 0, 0) := rfl
theorem i_132_7 : ins 132 7 = some (.iload_n 2, 8, 2, 0, 0, 0) := rfl
theorem i_132_8 : ins 132 8 = some (.iconst 1, 9, 0, 0, 0, 1) := rfl
theorem i_132_9 : ins 132 9 = some (.isub, 10, 0, 0, 0, 0) := rfl
theorem i_132_10 : ins 132 10 = some (.istore_n 3, 11, 3, 0, 0, 0) := rfl
theorem S132_0 {Q : Ou → Prop} {M : Mem} {κ : Kp} (hκ : Rd κ) {x n : Nat} (hx : x < 6) (hc : M 151 x = nI n) 
    (k1 : RT 132 (11, [.ref 134, .int (nI x), .int (nI n), .int ((nI n) - 1), UU, UU], [], M, κ) Q)
    : RT 132 (0, [.ref 134, .int (nI x), UU, UU, UU, UU], [], M, κ) Q := by
  refine w_load i_132_0 rfl rfl ?_
  refine w_getR 151 i_132_1 hκ (⟨rfl, by decide⟩ : isOb 134 7) rfl rfl ?_
  refine w_load i_132_4 rfl rfl ?_
  refine w_ialdN (e := x) (v := (nI n)) i_132_5 hκ (⟨rfl, rfl, by decide⟩ : isAr 151 6) (by omega) (by decide) (hc) ?_
  refine w_store (l1 := [.ref 134, .int (nI x), .int (nI n), UU, UU, UU]) i_132_6 rfl (Nat.le_of_ble_eq_true rfl) rfl ?_
  refine w_load i_132_7 rfl rfl ?_
  refine w_push i_132_8 rfl ?_
  refine w_bin (w := ((nI n) - 1)) i_132_9 rfl rfl ?_
  refine w_store (l1 := [.ref 134, .int (nI x), .int (nI n), .int ((nI n) - 1), UU, UU]) i_132_10 rfl (Nat.le_of_ble_eq_true rfl) rfl ?_
  exact (k1)
theorem i_132_11 : ins 132 11 = some (.iload_n 3, 12, 3, 0, 0, 0) := rfl
theorem i_132_12 : ins 132 12 = some (.ifCond .lt 103, 15, 115, 0, 0, 0) := rfl
theorem i_132_15 : ins 132 15 = some (.aload_n 0, 16, 0, 0, 0, 0) := rfl
theorem i_132_16 : ins 132 16 = some (.bipush 10, 18, 0, 0, 0, 10) := rfl
theorem i_132_18 : ins 132 18 = some (.iload_n 1, 19, 1, 0, 0, 0) := rfl
theorem i_132_19 : ins 132 19 = some (.imul, 20, 0, 0, 0, 0) := rfl
theorem i_132_20 : ins 132 20 = some (.iload_n 3, 21, 3, 0, 0, 0) := rfl
theorem i_132_21 : ins 132 21 = some (.iadd, 22, 0, 0, 0, 0) := rfl
theorem i_132_22 : ins 132 22 = some (.invokevirtual 229, 25, 115, 0, 2, 0) := rfl
theorem i_132_25 : ins 132 25 = some (.istore 4, 27, 4, 0, 0, 0) := rfl
theorem i_132_27 : ins 132 27 = some (.iload_n 3, 28, 3, 0, 0, 0) := rfl
theorem i_132_28 : ins 132 28 = some (.iconst 1, 29, 0, 0, 0, 1) := rfl
theorem i_132_29 : ins 132 29 = some (.iadd, 30, 0, 0, 0, 0) := rfl
theorem i_132_30 : ins 132 30 = some (.istore 5, 32, 5, 0, 0, 0) := rfl
theorem i_132_115 : ins 132 115 = some (.iload_n 2, 116, 2, 0, 0, 0) := rfl
theorem i_132_116 : ins 132 116 = some (.istore_n 3, 117, 3, 0, 0, 0) := rfl
theorem i_132_117 : ins 132 117 = some (.aload_n 0, 118, 0, 0, 0, 0) := rfl
theorem i_132_118 : ins 132 118 = some (.getfield 108, 121, 7, 36, 0, 0) := rfl
theorem i_132_121 : ins 132 121 = some (.iload_n 1, 122, 1, 0, 0, 0) := rfl
theorem i_132_122 : ins 132 122 = some (.iconst 0, 123, 0, 0, 0, 0) := rfl
theorem i_132_123 : ins 132 123 = some (.iastore, 124, 0, 0, 0, 0) := rfl
theorem i_132_124 : ins 132 124 = some (.iconst 0, 125, 0, 0, 0, 0) := rfl
theorem i_132_125 : ins 132 125 = some (.istore 4, 127, 4, 0, 0, 0) := rfl
theorem S132_11 {Q : Ou → Prop} {M : Mem} {κ : Kp} (hκ : Rd κ) {x n i : Nat} (hx : x < 6) (hn : n ≤ 10) (hi : i < n) (hc : M 151 x = nI n) {O : Op} (hO : ∀ f, f < 6 → ∀ j, j < n → M (152 + f) (10 * x + j) = O f j) {pl mu di lo : Int32} (hpl : M 134 3 = pl) (hmu : M 134 4 = mu) (hdi : M 134 5 = di) (hlo : M 134 6 = lo) 
    (k1 : i < 0 → RT 132 (127, [.ref 134, .int (nI x), UU, .int (nI n), .int 0, UU], [], (stM M 161 x 0), κ) Q)
    (k2 : ¬ (i < 0) → RT 132 (32, [.ref 134, .int (nI x), .int (nI n), .int (nI i), .int (latF pl mu di lo (O 0 i)), .int (nI (i + 1))], [], M, κ) Q)
    : RT 132 (11, [.ref 134, .int (nI x), .int (nI n), .int (nI i), UU, UU], [], M, κ) Q := by
  refine w_load i_132_11 rfl rfl ?_
  refine w_if0 (i < 0) i_132_12 (cZ_lt (a := i) (by omega) (by decide)) ?_ ?_
  · intro h1
    refine w_load i_132_115 rfl rfl ?_
    refine w_store (l1 := [.ref 134, .int (nI x), .int (nI n), .int (nI n), UU, UU]) i_132_116 rfl (Nat.le_of_ble_eq_true rfl) rfl ?_
    refine w_load i_132_117 rfl rfl ?_
    refine w_getR 161 i_132_118 hκ (⟨rfl, by decide⟩ : isOb 134 7) rfl rfl ?_
    refine w_load i_132_121 rfl rfl ?_
    refine w_push i_132_122 rfl ?_
    refine w_iastN (e := x) i_132_123 hκ (⟨rfl, rfl, by decide⟩ : isAr 161 6) (by omega) (by decide) ?_
    refine w_push i_132_124 rfl ?_
    refine w_store (l1 := [.ref 134, .int (nI x), .int (nI n), .int (nI n), .int 0, UU]) i_132_125 rfl (Nat.le_of_ble_eq_true rfl) rfl ?_
    exact w_weak (lle_s (lle_s (lle_u (lle_s (lle_s (lle_s lle_n)))))) (k1 h1)
  · intro h2
    refine w_load i_132_15 rfl rfl ?_
    refine w_push i_132_16 rfl ?_
    refine w_load i_132_18 rfl rfl ?_
    refine w_bin (w := (nI (10 * x))) i_132_19 rfl (nI_mul 10 x) ?_
    refine w_load i_132_20 rfl rfl ?_
    refine w_bin (w := (nI ((10 * x) + i))) i_132_21 rfl (nI_add (10 * x) i) ?_
    refine w_callV (i := _) i_132_22 ⟨by decide, by decide, by decide, rfl⟩ hκ (⟨rfl, by decide⟩ : isOb 134 7) (av := [.int (nI ((10 * x) + i))]) (rest := []) rfl rfl (Nat.le_of_ble_eq_true rfl) (v := some (.int (latF pl mu di lo (O 0 i)))) (c115 hκ (by omega) (hO 0 (by decide) i (by omega)) (hpl) (hmu) (hdi) (hlo)) ?_
    refine w_store (l1 := [.ref 134, .int (nI x), .int (nI n), .int (nI i), .int (latF pl mu di lo (O 0 i)), UU]) i_132_25 rfl (Nat.le_of_ble_eq_true rfl) rfl ?_
    refine w_load i_132_27 rfl rfl ?_
    refine w_push i_132_28 rfl ?_
    refine w_bin (w := (nI (i + 1))) i_132_29 rfl (nI_add i 1) ?_
    refine w_store (l1 := [.ref 134, .int (nI x), .int (nI n), .int (nI i), .int (latF pl mu di lo (O 0 i)), .int (nI (i + 1))]) i_132_30 rfl (Nat.le_of_ble_eq_true rfl) rfl ?_
    exact (k2 h2)
theorem i_132_32 : ins 132 32 = some (.iload 5, 34, 5, 0, 0, 0) := rfl
theorem i_132_34 : ins 132 34 = some (.iload_n 2, 35, 2, 0, 0, 0) := rfl
theorem i_132_35 : ins 132 35 = some (.if_icmp .ge 49, 38, 84, 0, 0, 0) := rfl
theorem i_132_38 : ins 132 38 = some (.aload_n 0, 39, 0, 0, 0, 0) := rfl
theorem i_132_39 : ins 132 39 = some (.iload_n 3, 40, 3, 0, 0, 0) := rfl
theorem i_132_40 : ins 132 40 = some (.iload 5, 42, 5, 0, 0, 0) := rfl
theorem i_132_42 : ins 132 42 = some (.invokevirtual 274, 45, 128, 0, 3, 0) := rfl
theorem i_132_45 : ins 132 45 = some (.ldc 222, 47, 222, 0, 0, (-100000)) := rfl
theorem i_132_47 : ins 132 47 = some (.if_icmp .le 31, 50, 78, 0, 0, 0) := rfl
theorem i_132_50 : ins 132 50 = some (.aload_n 0, 51, 0, 0, 0, 0) := rfl
theorem i_132_51 : ins 132 51 = some (.iload 4, 53, 4, 0, 0, 0) := rfl
theorem i_132_53 : ins 132 53 = some (.aload_n 0, 54, 0, 0, 0, 0) := rfl
theorem i_132_54 : ins 132 54 = some (.iload_n 3, 55, 3, 0, 0, 0) := rfl
theorem i_132_55 : ins 132 55 = some (.iload 5, 57, 5, 0, 0, 0) := rfl
theorem i_132_57 : ins 132 57 = some (.invokevirtual 274, 60, 128, 0, 3, 0) := rfl
theorem i_132_60 : ins 132 60 = some (.aload_n 0, 61, 0, 0, 0, 0) := rfl
theorem i_132_61 : ins 132 61 = some (.getfield 99, 64, 7, 33, 0, 0) := rfl
theorem i_132_64 : ins 132 64 = some (.bipush 10, 66, 0, 0, 0, 10) := rfl
theorem i_132_66 : ins 132 66 = some (.iload_n 1, 67, 1, 0, 0, 0) := rfl
theorem i_132_67 : ins 132 67 = some (.imul, 68, 0, 0, 0, 0) := rfl
theorem i_132_68 : ins 132 68 = some (.iload 5, 70, 5, 0, 0, 0) := rfl
theorem i_132_70 : ins 132 70 = some (.iadd, 71, 0, 0, 0, 0) := rfl
theorem i_132_71 : ins 132 71 = some (.iaload, 72, 0, 0, 0, 0) := rfl
theorem i_132_72 : ins 132 72 = some (.iadd, 73, 0, 0, 0, 0) := rfl
theorem i_132_73 : ins 132 73 = some (.invokevirtual 233, 76, 121, 0, 3, 0) := rfl
theorem i_132_76 : ins 132 76 = some (.istore 4, 78, 4, 0, 0, 0) := rfl
theorem i_132_78 : ins 132 78 = some (.iinc 5 1, 81, 5, 0, 0, 1) := rfl
theorem i_132_81 : ins 132 81 = some (.goto (-49), 84, 32, 0, 0, 0) := rfl
theorem i_132_84 : ins 132 84 = some (.aload_n 0, 85, 0, 0, 0, 0) := rfl
theorem i_132_85 : ins 132 85 = some (.getfield 99, 88, 7, 33, 0, 0) := rfl
theorem i_132_88 : ins 132 88 = some (.bipush 10, 90, 0, 0, 0, 10) := rfl
theorem i_132_90 : ins 132 90 = some (.iload_n 1, 91, 1, 0, 0, 0) := rfl
theorem i_132_91 : ins 132 91 = some (.imul, 92, 0, 0, 0, 0) := rfl
theorem i_132_92 : ins 132 92 = some (.iload_n 3, 93, 3, 0, 0, 0) := rfl
theorem i_132_93 : ins 132 93 = some (.iadd, 94, 0, 0, 0, 0) := rfl
theorem i_132_94 : ins 132 94 = some (.iload 4, 96, 4, 0, 0, 0) := rfl
theorem i_132_96 : ins 132 96 = some (.iastore, 97, 0, 0, 0, 0) := rfl
theorem i_132_97 : ins 132 97 = some (.aload_n 0, 98, 0, 0, 0, 0) := rfl
theorem i_132_98 : ins 132 98 = some (.getfield 102, 101, 7, 34, 0, 0) := rfl
theorem i_132_101 : ins 132 101 = some (.bipush 10, 103, 0, 0, 0, 10) := rfl
theorem i_132_103 : ins 132 103 = some (.iload_n 1, 104, 1, 0, 0, 0) := rfl
theorem i_132_104 : ins 132 104 = some (.imul, 105, 0, 0, 0, 0) := rfl
theorem i_132_105 : ins 132 105 = some (.iload_n 3, 106, 3, 0, 0, 0) := rfl
theorem i_132_106 : ins 132 106 = some (.iadd, 107, 0, 0, 0, 0) := rfl
theorem i_132_107 : ins 132 107 = some (.iconst (-1), 108, 0, 0, 0, (-1)) := rfl
theorem i_132_108 : ins 132 108 = some (.iastore, 109, 0, 0, 0, 0) := rfl
theorem i_132_109 : ins 132 109 = some (.iinc 3 (-1), 112, 3, 0, 0, (-1)) := rfl
theorem i_132_112 : ins 132 112 = some (.goto (-101), 115, 11, 0, 0, 0) := rfl
theorem S132_32 {Q : Ou → Prop} {M : Mem} {κ : Kp} (hκ : Rd κ) {x n i j : Nat} (hx : x < 6) (hn : n ≤ 10) (hi : i < n) (hc : M 151 x = nI n) {O : Op} (hO : ∀ f, f < 6 → ∀ j, j < n → M (152 + f) (10 * x + j) = O f j) {pl mu di lo : Int32} (hpl : M 134 3 = pl) (hmu : M 134 4 = mu) (hdi : M 134 5 = di) (hlo : M 134 6 = lo) (hj : j ≤ n) {mo : Int32} {r_42 : Int32} {r_57 : Int32}
    (o1 : j < n → Run 128 (0, entL 128 [.ref 134, .int (nI i), .int (nI j)], [], M, κ) (.inl (some (.int r_42)), M, κ))
    (o2 : j < n → (-100000) < r_42 → Run 128 (0, entL 128 [.ref 134, .int (nI i), .int (nI j)], [], M, κ) (.inl (some (.int r_57)), M, κ))
    (k1 : j < n → RT 132 (32, [.ref 134, .int (nI x), .int (nI n), .int (nI i), .int (if (-100000) < r_42 then (mx mo (r_57 + (M 158 ((10 * x) + j)))) else mo), .int (nI (j + 1))], [], M, κ) Q)
    (k2 : ¬ (j < n) → RT 132 (11, [.ref 134, .int (nI x), .int (nI n), .int ((nI i) + (-1)), UU, UU], [], (stM (stM M 158 ((10 * x) + i) mo) 159 ((10 * x) + i) (-1)), κ) Q)
    : RT 132 (32, [.ref 134, .int (nI x), .int (nI n), .int (nI i), .int mo, .int (nI j)], [], M, κ) Q := by
  refine w_load i_132_32 rfl rfl ?_
  refine w_load i_132_34 rfl rfl ?_
  refine w_if2n (j < n) i_132_35 (cN_ge (a := j) (b := n) (by omega) (by omega)) ?_ ?_
  · intro h1
    refine w_load i_132_38 rfl rfl ?_
    refine w_load i_132_39 rfl rfl ?_
    refine w_load i_132_40 rfl rfl ?_
    refine w_callV (i := _) i_132_42 ⟨by decide, by decide, by decide, rfl⟩ hκ (⟨rfl, by decide⟩ : isOb 134 7) (av := [.int (nI i), .int (nI j)]) (rest := []) rfl rfl (Nat.le_of_ble_eq_true rfl) (v := some (.int r_42)) (o1 h1) ?_
    refine w_push i_132_45 rfl ?_
    have K2 : RT 132 (78, [.ref 134, .int (nI x), .int (nI n), .int (nI i), .int (if (-100000) < r_42 then (mx mo (r_57 + (M 158 ((10 * x) + j)))) else mo), .int (nI j)], [], M, κ) Q := by
      refine w_iincN (n := j) (l1 := [.ref 134, .int (nI x), .int (nI n), .int (nI i), .int (if (-100000) < r_42 then (mx mo (r_57 + (M 158 ((10 * x) + j)))) else mo), .int (nI (j + 1))]) 1 i_132_78 rfl rfl ?_
      refine w_goto i_132_81 ?_
      exact (k1 h1)
    refine w_if2n ((-100000) < r_42) i_132_47 cI_le ?_ ?_
    · intro h3
      refine w_load i_132_50 rfl rfl ?_
      refine w_load i_132_51 rfl rfl ?_
      refine w_load i_132_53 rfl rfl ?_
      refine w_load i_132_54 rfl rfl ?_
      refine w_load i_132_55 rfl rfl ?_
      refine w_callV (i := _) i_132_57 ⟨by decide, by decide, by decide, rfl⟩ hκ (⟨rfl, by decide⟩ : isOb 134 7) (av := [.int (nI i), .int (nI j)]) (rest := [.int mo, .ref 134]) rfl rfl (Nat.le_of_ble_eq_true rfl) (v := some (.int r_57)) (o2 h1 h3) ?_
      refine w_load i_132_60 rfl rfl ?_
      refine w_getR 158 i_132_61 hκ (⟨rfl, by decide⟩ : isOb 134 7) rfl rfl ?_
      refine w_push i_132_64 rfl ?_
      refine w_load i_132_66 rfl rfl ?_
      refine w_bin (w := (nI (10 * x))) i_132_67 rfl (nI_mul 10 x) ?_
      refine w_load i_132_68 rfl rfl ?_
      refine w_bin (w := (nI ((10 * x) + j))) i_132_70 rfl (nI_add (10 * x) j) ?_
      refine w_ialdN (e := ((10 * x) + j)) (v := (M 158 ((10 * x) + j))) i_132_71 hκ (⟨rfl, rfl, by decide⟩ : isAr 158 60) (by omega) (by decide) (rfl) ?_
      refine w_bin (w := (r_57 + (M 158 ((10 * x) + j)))) i_132_72 rfl rfl ?_
      refine w_callV (i := _) i_132_73 ⟨by decide, by decide, by decide, rfl⟩ hκ (⟨rfl, by decide⟩ : isOb 134 7) (av := [.int mo, .int (r_57 + (M 158 ((10 * x) + j)))]) (rest := []) rfl rfl (Nat.le_of_ble_eq_true rfl) (v := some (.int (mx mo (r_57 + (M 158 ((10 * x) + j)))))) (c121 hκ) ?_
      refine w_store (l1 := [.ref 134, .int (nI x), .int (nI n), .int (nI i), .int (mx mo (r_57 + (M 158 ((10 * x) + j)))), .int (nI j)]) i_132_76 rfl (Nat.le_of_ble_eq_true rfl) rfl ?_
      exact (by first | exact (K2) | (have K9 := K2; simp only [↓if_pos h3] at K9 ⊢; exact (K9)))
    · intro h4
      exact (by first | exact (K2) | (have K9 := K2; simp only [↓if_neg h4] at K9 ⊢; exact (K9)))
  · intro h5
    refine w_load i_132_84 rfl rfl ?_
    refine w_getR 158 i_132_85 hκ (⟨rfl, by decide⟩ : isOb 134 7) rfl rfl ?_
    refine w_push i_132_88 rfl ?_
    refine w_load i_132_90 rfl rfl ?_
    refine w_bin (w := (nI (10 * x))) i_132_91 rfl (nI_mul 10 x) ?_
    refine w_load i_132_92 rfl rfl ?_
    refine w_bin (w := (nI ((10 * x) + i))) i_132_93 rfl (nI_add (10 * x) i) ?_
    refine w_load i_132_94 rfl rfl ?_
    refine w_iastN (e := ((10 * x) + i)) i_132_96 hκ (⟨rfl, rfl, by decide⟩ : isAr 158 60) (by omega) (by decide) ?_
    refine w_load i_132_97 rfl rfl ?_
    refine w_getR 159 i_132_98 hκ (⟨rfl, by decide⟩ : isOb 134 7) rfl rfl ?_
    refine w_push i_132_101 rfl ?_
    refine w_load i_132_103 rfl rfl ?_
    refine w_bin (w := (nI (10 * x))) i_132_104 rfl (nI_mul 10 x) ?_
    refine w_load i_132_105 rfl rfl ?_
    refine w_bin (w := (nI ((10 * x) + i))) i_132_106 rfl (nI_add (10 * x) i) ?_
    refine w_push i_132_107 rfl ?_
    refine w_iastN (e := ((10 * x) + i)) i_132_108 hκ (⟨rfl, rfl, by decide⟩ : isAr 159 60) (by omega) (by decide) ?_
    refine w_iinc (l1 := [.ref 134, .int (nI x), .int (nI n), .int ((nI i) + (-1)), .int mo, .int (nI j)]) i_132_109 rfl rfl ?_
    refine w_goto i_132_112 ?_
    exact w_weak (lle_s (lle_s (lle_s (lle_s (lle_u (lle_u lle_n)))))) (k2 h5)
theorem Sm132_11 {Q : Ou → Prop} {M : Mem} {κ : Kp} (hκ : Rd κ) {x n : Nat} (hx : x < 6) 
    (k1 : RT 132 (127, [.ref 134, .int (nI x), UU, .int (nI n), .int 0, UU], [], (stM M 161 x 0), κ) Q)
    : RT 132 (11, [.ref 134, .int (nI x), .int (nI n), .int (-1), UU, UU], [], M, κ) Q := by
  refine w_load i_132_11 rfl rfl ?_
  refine w_if0 (((-1) : Int32) < 0) i_132_12 cI0_lt ?_ ?_
  · intro h1
    refine w_load i_132_115 rfl rfl ?_
    refine w_store (l1 := [.ref 134, .int (nI x), .int (nI n), .int (nI n), UU, UU]) i_132_116 rfl (Nat.le_of_ble_eq_true rfl) rfl ?_
    refine w_load i_132_117 rfl rfl ?_
    refine w_getR 161 i_132_118 hκ (⟨rfl, by decide⟩ : isOb 134 7) rfl rfl ?_
    refine w_load i_132_121 rfl rfl ?_
    refine w_push i_132_122 rfl ?_
    refine w_iastN (e := x) i_132_123 hκ (⟨rfl, rfl, by decide⟩ : isAr 161 6) (by omega) (by decide) ?_
    refine w_push i_132_124 rfl ?_
    refine w_store (l1 := [.ref 134, .int (nI x), .int (nI n), .int (nI n), .int 0, UU]) i_132_125 rfl (Nat.le_of_ble_eq_true rfl) rfl ?_
    exact w_weak (lle_s (lle_s (lle_u (lle_s (lle_s (lle_s lle_n)))))) (k1)
  · intro h2
    exact absurd (by decide) h2
theorem i_132_127 : ins 132 127 = some (.iload_n 3, 128, 3, 0, 0, 0) := rfl
theorem i_132_128 : ins 132 128 = some (.ifCond .le 82, 131, 210, 0, 0, 0) := rfl
theorem i_132_131 : ins 132 131 = some (.aload_n 0, 132, 0, 0, 0, 0) := rfl
theorem i_132_132 : ins 132 132 = some (.iload_n 1, 133, 1, 0, 0, 0) := rfl
theorem i_132_133 : ins 132 133 = some (.iload 4, 135, 4, 0, 0, 0) := rfl
theorem i_132_135 : ins 132 135 = some (.invokevirtual 277, 138, 133, 0, 3, 0) := rfl
theorem i_132_138 : ins 132 138 = some (.istore 5, 140, 5, 0, 0, 0) := rfl
theorem i_132_210 : ins 132 210 = some (.return_, 211, 0, 0, 0, 0) := rfl
theorem S132_127 {Q : Ou → Prop} {M : Mem} {κ : Kp} (hκ : Rd κ) {x : Nat} (hx : x < 6) {le : Int32} {t : Nat} (b_t : t ≤ 100000) {r_135 : Int32}
    (o1 : 0 < le → Run 133 (0, entL 133 [.ref 134, .int (nI x), .int (nI t)], [], M, κ) (.inl (some (.int r_135)), M, κ))
    (k1 : 0 < le → RT 132 (140, [.ref 134, .int (nI x), UU, .int le, .int (nI t), .int r_135], [], M, κ) Q)
    (k2 : ¬ (0 < le) → Q (.inl none, M, κ))
    : RT 132 (127, [.ref 134, .int (nI x), UU, .int le, .int (nI t), UU], [], M, κ) Q := by
  refine w_load i_132_127 rfl rfl ?_
  refine w_if0n (0 < le) i_132_128 cI0_le ?_ ?_
  · intro h1
    refine w_load i_132_131 rfl rfl ?_
    refine w_load i_132_132 rfl rfl ?_
    refine w_load i_132_133 rfl rfl ?_
    refine w_callV (i := _) i_132_135 ⟨by decide, by decide, by decide, rfl⟩ hκ (⟨rfl, by decide⟩ : isOb 134 7) (av := [.int (nI x), .int (nI t)]) (rest := []) rfl rfl (Nat.le_of_ble_eq_true rfl) (v := some (.int r_135)) (o1 h1) ?_
    refine w_store (l1 := [.ref 134, .int (nI x), UU, .int le, .int (nI t), .int r_135]) i_132_138 rfl (Nat.le_of_ble_eq_true rfl) rfl ?_
    exact (k1 h1)
  · intro h2
    exact w_vret i_132_210 rfl (k2 h2)
theorem i_132_140 : ins 132 140 = some (.iload 5, 142, 5, 0, 0, 0) := rfl
theorem i_132_142 : ins 132 142 = some (.ifCond .lt 62, 145, 204, 0, 0, 0) := rfl
theorem i_132_204 : ins 132 204 = some (.iinc 4 1, 207, 4, 0, 0, 1) := rfl
theorem i_132_207 : ins 132 207 = some (.goto (-80), 210, 127, 0, 0, 0) := rfl
theorem Sm132_140 {Q : Ou → Prop} {M : Mem} {κ : Kp} (hκ : Rd κ) {x : Nat} (hx : x < 6) {le : Int32} {t : Nat} (b_t : t ≤ 100000)
    (k1 : RT 132 (127, [.ref 134, .int (nI x), UU, .int le, .int (nI (t + 1)), UU], [], M, κ) Q)
    : RT 132 (140, [.ref 134, .int (nI x), UU, .int le, .int (nI t), .int (-1)], [], M, κ) Q := by
  refine w_load i_132_140 rfl rfl ?_
  refine w_if0 (((-1) : Int32) < 0) i_132_142 cI0_lt ?_ ?_
  · intro h1
    refine w_iincN (n := t) (l1 := [.ref 134, .int (nI x), UU, .int le, .int (nI (t + 1)), .int (-1)]) 1 i_132_204 rfl rfl ?_
    refine w_goto i_132_207 ?_
    exact w_weak (lle_s (lle_s (lle_s (lle_s (lle_s (lle_u lle_n)))))) (k1)
  · intro h2
    exact absurd (by decide) h2
theorem i_132_145 : ins 132 145 = some (.aload_n 0, 146, 0, 0, 0, 0) := rfl
theorem i_132_146 : ins 132 146 = some (.getfield 102, 149, 7, 34, 0, 0) := rfl
theorem i_132_149 : ins 132 149 = some (.bipush 10, 151, 0, 0, 0, 10) := rfl
theorem i_132_151 : ins 132 151 = some (.iload_n 1, 152, 1, 0, 0, 0) := rfl
theorem i_132_152 : ins 132 152 = some (.imul, 153, 0, 0, 0, 0) := rfl
theorem i_132_153 : ins 132 153 = some (.iload 5, 155, 5, 0, 0, 0) := rfl
theorem i_132_155 : ins 132 155 = some (.iadd, 156, 0, 0, 0, 0) := rfl
theorem i_132_156 : ins 132 156 = some (.iload 4, 158, 4, 0, 0, 0) := rfl
theorem i_132_158 : ins 132 158 = some (.iastore, 159, 0, 0, 0, 0) := rfl
theorem i_132_159 : ins 132 159 = some (.aload_n 0, 160, 0, 0, 0, 0) := rfl
theorem i_132_160 : ins 132 160 = some (.getfield 108, 163, 7, 36, 0, 0) := rfl
theorem i_132_163 : ins 132 163 = some (.iload_n 1, 164, 1, 0, 0, 0) := rfl
theorem i_132_164 : ins 132 164 = some (.aload_n 0, 165, 0, 0, 0, 0) := rfl
theorem i_132_165 : ins 132 165 = some (.aload_n 0, 166, 0, 0, 0, 0) := rfl
theorem i_132_166 : ins 132 166 = some (.getfield 108, 169, 7, 36, 0, 0) := rfl
theorem i_132_169 : ins 132 169 = some (.iload_n 1, 170, 1, 0, 0, 0) := rfl
theorem i_132_170 : ins 132 170 = some (.iaload, 171, 0, 0, 0, 0) := rfl
theorem i_132_171 : ins 132 171 = some (.iload 4, 173, 4, 0, 0, 0) := rfl
theorem i_132_173 : ins 132 173 = some (.aload_n 0, 174, 0, 0, 0, 0) := rfl
theorem i_132_174 : ins 132 174 = some (.bipush 10, 176, 0, 0, 0, 10) := rfl
theorem i_132_176 : ins 132 176 = some (.iload_n 1, 177, 1, 0, 0, 0) := rfl
theorem i_132_177 : ins 132 177 = some (.imul, 178, 0, 0, 0, 0) := rfl
theorem i_132_178 : ins 132 178 = some (.iload 5, 180, 5, 0, 0, 0) := rfl
theorem i_132_180 : ins 132 180 = some (.iadd, 181, 0, 0, 0, 0) := rfl
theorem i_132_181 : ins 132 181 = some (.invokevirtual 229, 184, 115, 0, 2, 0) := rfl
theorem i_132_184 : ins 132 184 = some (.iadd, 185, 0, 0, 0, 0) := rfl
theorem i_132_185 : ins 132 185 = some (.invokevirtual 233, 188, 121, 0, 3, 0) := rfl
theorem i_132_188 : ins 132 188 = some (.iastore, 189, 0, 0, 0, 0) := rfl
theorem i_132_189 : ins 132 189 = some (.iinc 3 (-1), 192, 3, 0, 0, (-1)) := rfl
theorem i_132_192 : ins 132 192 = some (.aload_n 0, 193, 0, 0, 0, 0) := rfl
theorem i_132_193 : ins 132 193 = some (.iload_n 1, 194, 1, 0, 0, 0) := rfl
theorem i_132_194 : ins 132 194 = some (.iload 4, 196, 4, 0, 0, 0) := rfl
theorem i_132_196 : ins 132 196 = some (.invokevirtual 277, 199, 133, 0, 3, 0) := rfl
theorem i_132_199 : ins 132 199 = some (.istore 5, 201, 5, 0, 0, 0) := rfl
theorem i_132_201 : ins 132 201 = some (.goto (-61), 204, 140, 0, 0, 0) := rfl
theorem S132_140 {Q : Ou → Prop} {M : Mem} {κ : Kp} (hκ : Rd κ) {x n i : Nat} (hx : x < 6) (hn : n ≤ 10) (hi : i < n) (hc : M 151 x = nI n) {O : Op} (hO : ∀ f, f < 6 → ∀ j, j < n → M (152 + f) (10 * x + j) = O f j) {pl mu di lo : Int32} (hpl : M 134 3 = pl) (hmu : M 134 4 = mu) (hdi : M 134 5 = di) (hlo : M 134 6 = lo) {le : Int32} {t : Nat} (b_t : t ≤ 100000) {r_196 : Int32}
    (o1 : ¬ (i < 0) → Run 133 (0, entL 133 [.ref 134, .int (nI x), .int (nI t)], [], (stM (stM M 159 ((10 * x) + i) (nI t)) 161 x (mx (M 161 x) ((nI t) + (latF pl mu di lo (O 0 i))))), κ) (.inl (some (.int r_196)), (stM (stM M 159 ((10 * x) + i) (nI t)) 161 x (mx (M 161 x) ((nI t) + (latF pl mu di lo (O 0 i))))), κ))
    (k1 : i < 0 → RT 132 (127, [.ref 134, .int (nI x), UU, .int le, .int (nI (t + 1)), UU], [], M, κ) Q)
    (k2 : ¬ (i < 0) → RT 132 (140, [.ref 134, .int (nI x), UU, .int (le + (-1)), .int (nI t), .int r_196], [], (stM (stM M 159 ((10 * x) + i) (nI t)) 161 x (mx (M 161 x) ((nI t) + (latF pl mu di lo (O 0 i))))), κ) Q)
    : RT 132 (140, [.ref 134, .int (nI x), UU, .int le, .int (nI t), .int (nI i)], [], M, κ) Q := by
  refine w_load i_132_140 rfl rfl ?_
  refine w_if0 (i < 0) i_132_142 (cZ_lt (a := i) (by omega) (by decide)) ?_ ?_
  · intro h1
    refine w_iincN (n := t) (l1 := [.ref 134, .int (nI x), UU, .int le, .int (nI (t + 1)), .int (nI i)]) 1 i_132_204 rfl rfl ?_
    refine w_goto i_132_207 ?_
    exact w_weak (lle_s (lle_s (lle_s (lle_s (lle_s (lle_u lle_n)))))) (k1 h1)
  · intro h2
    refine w_load i_132_145 rfl rfl ?_
    refine w_getR 159 i_132_146 hκ (⟨rfl, by decide⟩ : isOb 134 7) rfl rfl ?_
    refine w_push i_132_149 rfl ?_
    refine w_load i_132_151 rfl rfl ?_
    refine w_bin (w := (nI (10 * x))) i_132_152 rfl (nI_mul 10 x) ?_
    refine w_load i_132_153 rfl rfl ?_
    refine w_bin (w := (nI ((10 * x) + i))) i_132_155 rfl (nI_add (10 * x) i) ?_
    refine w_load i_132_156 rfl rfl ?_
    refine w_iastN (e := ((10 * x) + i)) i_132_158 hκ (⟨rfl, rfl, by decide⟩ : isAr 159 60) (by omega) (by decide) ?_
    refine w_load i_132_159 rfl rfl ?_
    refine w_getR 161 i_132_160 hκ (⟨rfl, by decide⟩ : isOb 134 7) rfl rfl ?_
    refine w_load i_132_163 rfl rfl ?_
    refine w_load i_132_164 rfl rfl ?_
    refine w_load i_132_165 rfl rfl ?_
    refine w_getR 161 i_132_166 hκ (⟨rfl, by decide⟩ : isOb 134 7) rfl rfl ?_
    refine w_load i_132_169 rfl rfl ?_
    refine w_ialdN (e := x) (v := (M 161 x)) i_132_170 hκ (⟨rfl, rfl, by decide⟩ : isAr 161 6) (by omega) (by decide) ((stM_o (by decide)).trans (rfl)) ?_
    refine w_load i_132_171 rfl rfl ?_
    refine w_load i_132_173 rfl rfl ?_
    refine w_push i_132_174 rfl ?_
    refine w_load i_132_176 rfl rfl ?_
    refine w_bin (w := (nI (10 * x))) i_132_177 rfl (nI_mul 10 x) ?_
    refine w_load i_132_178 rfl rfl ?_
    refine w_bin (w := (nI ((10 * x) + i))) i_132_180 rfl (nI_add (10 * x) i) ?_
    refine w_callV (i := _) i_132_181 ⟨by decide, by decide, by decide, rfl⟩ hκ (⟨rfl, by decide⟩ : isOb 134 7) (av := [.int (nI ((10 * x) + i))]) (rest := [.int (nI t), .int (M 161 x), .ref 134, .int (nI x), .ref 161]) rfl rfl (Nat.le_of_ble_eq_true rfl) (v := some (.int (latF pl mu di lo (O 0 i)))) (c115 hκ (by omega) ((stM_o (by decide)).trans (hO 0 (by decide) i (by omega))) ((stM_o (by decide)).trans (hpl)) ((stM_o (by decide)).trans (hmu)) ((stM_o (by decide)).trans (hdi)) ((stM_o (by decide)).trans (hlo))) ?_
    refine w_bin (w := ((nI t) + (latF pl mu di lo (O 0 i)))) i_132_184 rfl rfl ?_
    refine w_callV (i := _) i_132_185 ⟨by decide, by decide, by decide, rfl⟩ hκ (⟨rfl, by decide⟩ : isOb 134 7) (av := [.int (M 161 x), .int ((nI t) + (latF pl mu di lo (O 0 i)))]) (rest := [.int (nI x), .ref 161]) rfl rfl (Nat.le_of_ble_eq_true rfl) (v := some (.int (mx (M 161 x) ((nI t) + (latF pl mu di lo (O 0 i)))))) (c121 hκ) ?_
    refine w_iastN (e := x) i_132_188 hκ (⟨rfl, rfl, by decide⟩ : isAr 161 6) (by omega) (by decide) ?_
    refine w_iinc (l1 := [.ref 134, .int (nI x), UU, .int (le + (-1)), .int (nI t), .int (nI i)]) i_132_189 rfl rfl ?_
    refine w_load i_132_192 rfl rfl ?_
    refine w_load i_132_193 rfl rfl ?_
    refine w_load i_132_194 rfl rfl ?_
    refine w_callV (i := _) i_132_196 ⟨by decide, by decide, by decide, rfl⟩ hκ (⟨rfl, by decide⟩ : isOb 134 7) (av := [.int (nI x), .int (nI t)]) (rest := []) rfl rfl (Nat.le_of_ble_eq_true rfl) (v := some (.int r_196)) (o1 h2) ?_
    refine w_store (l1 := [.ref 134, .int (nI x), UU, .int (le + (-1)), .int (nI t), .int r_196]) i_132_199 rfl (Nat.le_of_ble_eq_true rfl) rfl ?_
    refine w_goto i_132_201 ?_
    exact (k2 h2)
theorem i_133_0 : ins 133 0 = some (.iconst (-1), 1, 0, 0, 0, (-1)) := rfl
theorem i_133_1 : ins 133 1 = some (.istore_n 3, 2, 3, 0, 0, 0) := rfl
theorem i_133_2 : ins 133 2 = some (.iconst 0, 3, 0, 0, 0, 0) := rfl
theorem i_133_3 : ins 133 3 = some (.istore 4, 5, 4, 0, 0, 0) := rfl
theorem i_133_5 : ins 133 5 = some (.iload 4, 7, 4, 0, 0, 0) := rfl
theorem i_133_7 : ins 133 7 = some (.aload_n 0, 8, 0, 0, 0, 0) := rfl
theorem i_133_8 : ins 133 8 = some (.getfield 78, 11, 7, 26, 0, 0) := rfl
theorem i_133_11 : ins 133 11 = some (.iload_n 1, 12, 1, 0, 0, 0) := rfl
theorem i_133_12 : ins 133 12 = some (.iaload, 13, 0, 0, 0, 0) := rfl
theorem i_133_13 : ins 133 13 = some (.if_icmp .ge 228, 16, 241, 0, 0, 0) := rfl
theorem i_133_16 : ins 133 16 = some (.bipush 10, 18, 0, 0, 0, 10) := rfl
theorem i_133_18 : ins 133 18 = some (.iload_n 1, 19, 1, 0, 0, 0) := rfl
theorem i_133_19 : ins 133 19 = some (.imul, 20, 0, 0, 0, 0) := rfl
theorem i_133_20 : ins 133 20 = some (.iload 4, 22, 4, 0, 0, 0) := rfl
theorem i_133_22 : ins 133 22 = some (.iadd, 23, 0, 0, 0, 0) := rfl
theorem i_133_23 : ins 133 23 = some (.istore 5, 25, 5, 0, 0, 0) := rfl
theorem i_133_25 : ins 133 25 = some (.aload_n 0, 26, 0, 0, 0, 0) := rfl
theorem i_133_26 : ins 133 26 = some (.getfield 102, 29, 7, 34, 0, 0) := rfl
theorem i_133_29 : ins 133 29 = some (.iload 5, 31, 5, 0, 0, 0) := rfl
theorem i_133_31 : ins 133 31 = some (.iaload, 32, 0, 0, 0, 0) := rfl
theorem i_133_32 : ins 133 32 = some (.ifCond .lt 6, 35, 38, 0, 0, 0) := rfl
theorem i_133_35 : ins 133 35 = some (.goto 200, 38, 235, 0, 0, 0) := rfl
theorem i_133_38 : ins 133 38 = some (.iconst 1, 39, 0, 0, 0, 1) := rfl
theorem i_133_39 : ins 133 39 = some (.istore 6, 41, 6, 0, 0, 0) := rfl
theorem i_133_41 : ins 133 41 = some (.iconst 0, 42, 0, 0, 0, 0) := rfl
theorem i_133_42 : ins 133 42 = some (.istore 7, 44, 7, 0, 0, 0) := rfl
theorem i_133_235 : ins 133 235 = some (.iinc 4 1, 238, 4, 0, 0, 1) := rfl
theorem i_133_238 : ins 133 238 = some (.goto (-233), 241, 5, 0, 0, 0) := rfl
theorem i_133_241 : ins 133 241 = some (.iload_n 3, 242, 3, 0, 0, 0) := rfl
theorem i_133_242 : ins 133 242 = some (.ireturn, 243, 0, 0, 0, 0) := rfl
theorem S133_0 {Q : Ou → Prop} {M : Mem} {κ : Kp} (hκ : Rd κ) {x n i j al po : Nat} (hx : x < 6) (hn : n ≤ 10) (hi : i ≤ n) (hj : j ≤ n) (hc : M 151 x = nI n) (hal : M 134 1 = nI al) (hpo : M 134 2 = nI po) {O : Op} (hO : ∀ f, f < 6 → ∀ j, j < n → M (152 + f) (10 * x + j) = O f j) {t : Nat} (b_t : t ≤ 100000)
    (k1 : RT 133 (5, [.ref 134, .int (nI x), .int (nI t), .int (-1), .int (nI 0), UU, UU, UU, UU], [], M, κ) Q)
    : RT 133 (0, [.ref 134, .int (nI x), .int (nI t), UU, UU, UU, UU, UU, UU], [], M, κ) Q := by
  refine w_push i_133_0 rfl ?_
  refine w_store (l1 := [.ref 134, .int (nI x), .int (nI t), .int (-1), UU, UU, UU, UU, UU]) i_133_1 rfl (Nat.le_of_ble_eq_true rfl) rfl ?_
  refine w_push i_133_2 rfl ?_
  refine w_store (l1 := [.ref 134, .int (nI x), .int (nI t), .int (-1), .int 0, UU, UU, UU, UU]) i_133_3 rfl (Nat.le_of_ble_eq_true rfl) rfl ?_
  exact (k1)
theorem S133_5 {Q : Ou → Prop} {M : Mem} {κ : Kp} (hκ : Rd κ) {x n i j al po : Nat} (hx : x < 6) (hn : n ≤ 10) (hi : i ≤ n) (hj : j ≤ n) (hc : M 151 x = nI n) (hal : M 134 1 = nI al) (hpo : M 134 2 = nI po) {O : Op} (hO : ∀ f, f < 6 → ∀ j, j < n → M (152 + f) (10 * x + j) = O f j) {t : Nat} {be : Int32} (b_t : t ≤ 100000)
    (k1 : i < n → (M 159 ((10 * x) + i)) < 0 → RT 133 (44, [.ref 134, .int (nI x), .int (nI t), .int be, .int (nI i), .int (nI ((10 * x) + i)), .int 1, .int (nI 0), UU], [], M, κ) Q)
    (k2 : i < n → ¬ ((M 159 ((10 * x) + i)) < 0) → RT 133 (5, [.ref 134, .int (nI x), .int (nI t), .int be, .int (nI (i + 1)), UU, UU, UU, UU], [], M, κ) Q)
    (k3 : ¬ (i < n) → Q (.inl (some (.int be)), M, κ))
    : RT 133 (5, [.ref 134, .int (nI x), .int (nI t), .int be, .int (nI i), UU, UU, UU, UU], [], M, κ) Q := by
  refine w_load i_133_5 rfl rfl ?_
  refine w_load i_133_7 rfl rfl ?_
  refine w_getR 151 i_133_8 hκ (⟨rfl, by decide⟩ : isOb 134 7) rfl rfl ?_
  refine w_load i_133_11 rfl rfl ?_
  refine w_ialdN (e := x) (v := (nI n)) i_133_12 hκ (⟨rfl, rfl, by decide⟩ : isAr 151 6) (by omega) (by decide) (hc) ?_
  refine w_if2n (i < n) i_133_13 (cN_ge (a := i) (b := n) (by omega) (by omega)) ?_ ?_
  · intro h1
    refine w_push i_133_16 rfl ?_
    refine w_load i_133_18 rfl rfl ?_
    refine w_bin (w := (nI (10 * x))) i_133_19 rfl (nI_mul 10 x) ?_
    refine w_load i_133_20 rfl rfl ?_
    refine w_bin (w := (nI ((10 * x) + i))) i_133_22 rfl (nI_add (10 * x) i) ?_
    refine w_store (l1 := [.ref 134, .int (nI x), .int (nI t), .int be, .int (nI i), .int (nI ((10 * x) + i)), UU, UU, UU]) i_133_23 rfl (Nat.le_of_ble_eq_true rfl) rfl ?_
    refine w_load i_133_25 rfl rfl ?_
    refine w_getR 159 i_133_26 hκ (⟨rfl, by decide⟩ : isOb 134 7) rfl rfl ?_
    refine w_load i_133_29 rfl rfl ?_
    refine w_ialdN (e := ((10 * x) + i)) (v := (M 159 ((10 * x) + i))) i_133_31 hκ (⟨rfl, rfl, by decide⟩ : isAr 159 60) (by omega) (by decide) (rfl) ?_
    refine w_if0 ((M 159 ((10 * x) + i)) < 0) i_133_32 cI0_lt ?_ ?_
    · intro h2
      refine w_push i_133_38 rfl ?_
      refine w_store (l1 := [.ref 134, .int (nI x), .int (nI t), .int be, .int (nI i), .int (nI ((10 * x) + i)), .int 1, UU, UU]) i_133_39 rfl (Nat.le_of_ble_eq_true rfl) rfl ?_
      refine w_push i_133_41 rfl ?_
      refine w_store (l1 := [.ref 134, .int (nI x), .int (nI t), .int be, .int (nI i), .int (nI ((10 * x) + i)), .int 1, .int 0, UU]) i_133_42 rfl (Nat.le_of_ble_eq_true rfl) rfl ?_
      exact (k1 h1 h2)
    · intro h3
      refine w_goto i_133_35 ?_
      refine w_iincN (n := i) (l1 := [.ref 134, .int (nI x), .int (nI t), .int be, .int (nI (i + 1)), .int (nI ((10 * x) + i)), UU, UU, UU]) 1 i_133_235 rfl rfl ?_
      refine w_goto i_133_238 ?_
      exact w_weak (lle_s (lle_s (lle_s (lle_s (lle_s (lle_u (lle_s (lle_s (lle_s lle_n))))))))) (k2 h1 h3)
  · intro h4
    refine w_load i_133_241 rfl rfl ?_
    exact w_iret i_133_242 (.inl rfl) (k3 h4)
theorem i_133_44 : ins 133 44 = some (.iload 7, 46, 7, 0, 0, 0) := rfl
theorem i_133_46 : ins 133 46 = some (.iload 4, 48, 4, 0, 0, 0) := rfl
theorem i_133_48 : ins 133 48 = some (.if_icmp .ge 74, 51, 122, 0, 0, 0) := rfl
theorem i_133_51 : ins 133 51 = some (.iload 6, 53, 6, 0, 0, 0) := rfl
theorem i_133_53 : ins 133 53 = some (.ifCond .eq 60, 56, 113, 0, 0, 0) := rfl
theorem i_133_56 : ins 133 56 = some (.aload_n 0, 57, 0, 0, 0, 0) := rfl
theorem i_133_57 : ins 133 57 = some (.iload 7, 59, 7, 0, 0, 0) := rfl
theorem i_133_59 : ins 133 59 = some (.iload 4, 61, 4, 0, 0, 0) := rfl
theorem i_133_61 : ins 133 61 = some (.invokevirtual 274, 64, 128, 0, 3, 0) := rfl
theorem i_133_64 : ins 133 64 = some (.ldc 222, 66, 222, 0, 0, (-100000)) := rfl
theorem i_133_66 : ins 133 66 = some (.if_icmp .eq 43, 69, 109, 0, 0, 0) := rfl
theorem i_133_69 : ins 133 69 = some (.aload_n 0, 70, 0, 0, 0, 0) := rfl
theorem i_133_70 : ins 133 70 = some (.getfield 102, 73, 7, 34, 0, 0) := rfl
theorem i_133_73 : ins 133 73 = some (.bipush 10, 75, 0, 0, 0, 10) := rfl
theorem i_133_75 : ins 133 75 = some (.iload_n 1, 76, 1, 0, 0, 0) := rfl
theorem i_133_76 : ins 133 76 = some (.imul, 77, 0, 0, 0, 0) := rfl
theorem i_133_77 : ins 133 77 = some (.iload 7, 79, 7, 0, 0, 0) := rfl
theorem i_133_79 : ins 133 79 = some (.iadd, 80, 0, 0, 0, 0) := rfl
theorem i_133_80 : ins 133 80 = some (.iaload, 81, 0, 0, 0, 0) := rfl
theorem i_133_81 : ins 133 81 = some (.ifCond .lt 32, 84, 113, 0, 0, 0) := rfl
theorem i_133_84 : ins 133 84 = some (.aload_n 0, 85, 0, 0, 0, 0) := rfl
theorem i_133_85 : ins 133 85 = some (.getfield 102, 88, 7, 34, 0, 0) := rfl
theorem i_133_88 : ins 133 88 = some (.bipush 10, 90, 0, 0, 0, 10) := rfl
theorem i_133_90 : ins 133 90 = some (.iload_n 1, 91, 1, 0, 0, 0) := rfl
theorem i_133_91 : ins 133 91 = some (.imul, 92, 0, 0, 0, 0) := rfl
theorem i_133_92 : ins 133 92 = some (.iload 7, 94, 7, 0, 0, 0) := rfl
theorem i_133_94 : ins 133 94 = some (.iadd, 95, 0, 0, 0, 0) := rfl
theorem i_133_95 : ins 133 95 = some (.iaload, 96, 0, 0, 0, 0) := rfl
theorem i_133_96 : ins 133 96 = some (.aload_n 0, 97, 0, 0, 0, 0) := rfl
theorem i_133_97 : ins 133 97 = some (.iload 7, 99, 7, 0, 0, 0) := rfl
theorem i_133_99 : ins 133 99 = some (.iload 4, 101, 4, 0, 0, 0) := rfl
theorem i_133_101 : ins 133 101 = some (.invokevirtual 274, 104, 128, 0, 3, 0) := rfl
theorem i_133_104 : ins 133 104 = some (.iadd, 105, 0, 0, 0, 0) := rfl
theorem i_133_105 : ins 133 105 = some (.iload_n 2, 106, 2, 0, 0, 0) := rfl
theorem i_133_106 : ins 133 106 = some (.if_icmp .gt 7, 109, 113, 0, 0, 0) := rfl
theorem i_133_109 : ins 133 109 = some (.iconst 1, 110, 0, 0, 0, 1) := rfl
theorem i_133_110 : ins 133 110 = some (.goto 4, 113, 114, 0, 0, 0) := rfl
theorem i_133_113 : ins 133 113 = some (.iconst 0, 114, 0, 0, 0, 0) := rfl
theorem i_133_114 : ins 133 114 = some (.istore 6, 116, 6, 0, 0, 0) := rfl
theorem i_133_116 : ins 133 116 = some (.iinc 7 1, 119, 7, 0, 0, 1) := rfl
theorem i_133_119 : ins 133 119 = some (.goto (-75), 122, 44, 0, 0, 0) := rfl
theorem i_133_122 : ins 133 122 = some (.iconst 0, 123, 0, 0, 0, 0) := rfl
theorem i_133_123 : ins 133 123 = some (.istore 7, 125, 7, 0, 0, 0) := rfl
theorem i_133_125 : ins 133 125 = some (.iconst 0, 126, 0, 0, 0, 0) := rfl
theorem i_133_126 : ins 133 126 = some (.istore 8, 128, 8, 0, 0, 0) := rfl
theorem i_133_128 : ins 133 128 = some (.iload 8, 130, 8, 0, 0, 0) := rfl
theorem i_133_130 : ins 133 130 = some (.aload_n 0, 131, 0, 0, 0, 0) := rfl
theorem i_133_131 : ins 133 131 = some (.getfield 78, 134, 7, 26, 0, 0) := rfl
theorem i_133_134 : ins 133 134 = some (.iload_n 1, 135, 1, 0, 0, 0) := rfl
theorem i_133_135 : ins 133 135 = some (.iaload, 136, 0, 0, 0, 0) := rfl
theorem i_133_136 : ins 133 136 = some (.if_icmp .ge 55, 139, 191, 0, 0, 0) := rfl
theorem i_133_139 : ins 133 139 = some (.iload 7, 141, 7, 0, 0, 0) := rfl
theorem i_133_141 : ins 133 141 = some (.aload_n 0, 142, 0, 0, 0, 0) := rfl
theorem i_133_142 : ins 133 142 = some (.getfield 102, 145, 7, 34, 0, 0) := rfl
theorem i_133_145 : ins 133 145 = some (.bipush 10, 147, 0, 0, 0, 10) := rfl
theorem i_133_147 : ins 133 147 = some (.iload_n 1, 148, 1, 0, 0, 0) := rfl
theorem i_133_148 : ins 133 148 = some (.imul, 149, 0, 0, 0, 0) := rfl
theorem i_133_149 : ins 133 149 = some (.iload 8, 151, 8, 0, 0, 0) := rfl
theorem i_133_151 : ins 133 151 = some (.iadd, 152, 0, 0, 0, 0) := rfl
theorem i_133_152 : ins 133 152 = some (.iaload, 153, 0, 0, 0, 0) := rfl
theorem i_133_153 : ins 133 153 = some (.iload_n 2, 154, 2, 0, 0, 0) := rfl
theorem i_133_154 : ins 133 154 = some (.if_icmp .ne 27, 157, 181, 0, 0, 0) := rfl
theorem i_133_157 : ins 133 157 = some (.aload_n 0, 158, 0, 0, 0, 0) := rfl
theorem i_133_158 : ins 133 158 = some (.bipush 10, 160, 0, 0, 0, 10) := rfl
theorem i_133_160 : ins 133 160 = some (.iload_n 1, 161, 1, 0, 0, 0) := rfl
theorem i_133_161 : ins 133 161 = some (.imul, 162, 0, 0, 0, 0) := rfl
theorem i_133_162 : ins 133 162 = some (.iload 8, 164, 8, 0, 0, 0) := rfl
theorem i_133_164 : ins 133 164 = some (.iadd, 165, 0, 0, 0, 0) := rfl
theorem i_133_165 : ins 133 165 = some (.invokevirtual 259, 168, 116, 0, 2, 0) := rfl
theorem i_133_168 : ins 133 168 = some (.aload_n 0, 169, 0, 0, 0, 0) := rfl
theorem i_133_169 : ins 133 169 = some (.iload 5, 171, 5, 0, 0, 0) := rfl
theorem i_133_171 : ins 133 171 = some (.invokevirtual 259, 174, 116, 0, 2, 0) := rfl
theorem i_133_174 : ins 133 174 = some (.if_icmp .ne 7, 177, 181, 0, 0, 0) := rfl
theorem i_133_177 : ins 133 177 = some (.iconst 1, 178, 0, 0, 0, 1) := rfl
theorem i_133_178 : ins 133 178 = some (.goto 4, 181, 182, 0, 0, 0) := rfl
theorem i_133_181 : ins 133 181 = some (.iconst 0, 182, 0, 0, 0, 0) := rfl
theorem i_133_182 : ins 133 182 = some (.iadd, 183, 0, 0, 0, 0) := rfl
theorem i_133_183 : ins 133 183 = some (.istore 7, 185, 7, 0, 0, 0) := rfl
theorem i_133_185 : ins 133 185 = some (.iinc 8 1, 188, 8, 0, 0, 1) := rfl
theorem i_133_188 : ins 133 188 = some (.goto (-60), 191, 128, 0, 0, 0) := rfl
theorem i_133_191 : ins 133 191 = some (.iload 6, 193, 6, 0, 0, 0) := rfl
theorem i_133_193 : ins 133 193 = some (.ifCond .eq 42, 196, 235, 0, 0, 0) := rfl
theorem i_133_196 : ins 133 196 = some (.iload 7, 198, 7, 0, 0, 0) := rfl
theorem i_133_198 : ins 133 198 = some (.aload_n 0, 199, 0, 0, 0, 0) := rfl
theorem i_133_199 : ins 133 199 = some (.iload 5, 201, 5, 0, 0, 0) := rfl
theorem i_133_201 : ins 133 201 = some (.invokevirtual 280, 204, 130, 0, 2, 0) := rfl
theorem i_133_204 : ins 133 204 = some (.if_icmp .ge 31, 207, 235, 0, 0, 0) := rfl
theorem i_133_207 : ins 133 207 = some (.iload_n 3, 208, 3, 0, 0, 0) := rfl
theorem i_133_208 : ins 133 208 = some (.ifCond .lt 24, 211, 232, 0, 0, 0) := rfl
theorem i_133_211 : ins 133 211 = some (.aload_n 0, 212, 0, 0, 0, 0) := rfl
theorem i_133_212 : ins 133 212 = some (.getfield 99, 215, 7, 33, 0, 0) := rfl
theorem i_133_215 : ins 133 215 = some (.iload 5, 217, 5, 0, 0, 0) := rfl
theorem i_133_217 : ins 133 217 = some (.iaload, 218, 0, 0, 0, 0) := rfl
theorem i_133_218 : ins 133 218 = some (.aload_n 0, 219, 0, 0, 0, 0) := rfl
theorem i_133_219 : ins 133 219 = some (.getfield 99, 222, 7, 33, 0, 0) := rfl
theorem i_133_222 : ins 133 222 = some (.bipush 10, 224, 0, 0, 0, 10) := rfl
theorem i_133_224 : ins 133 224 = some (.iload_n 1, 225, 1, 0, 0, 0) := rfl
theorem i_133_225 : ins 133 225 = some (.imul, 226, 0, 0, 0, 0) := rfl
theorem i_133_226 : ins 133 226 = some (.iload_n 3, 227, 3, 0, 0, 0) := rfl
theorem i_133_227 : ins 133 227 = some (.iadd, 228, 0, 0, 0, 0) := rfl
theorem i_133_228 : ins 133 228 = some (.iaload, 229, 0, 0, 0, 0) := rfl
theorem i_133_229 : ins 133 229 = some (.if_icmp .le 6, 232, 235, 0, 0, 0) := rfl
theorem i_133_232 : ins 133 232 = some (.iload 4, 234, 4, 0, 0, 0) := rfl
theorem i_133_234 : ins 133 234 = some (.istore_n 3, 235, 3, 0, 0, 0) := rfl
theorem S133_44 {Q : Ou → Prop} {M : Mem} {κ : Kp} (hκ : Rd κ) {x n i j al po : Nat} (hx : x < 6) (hn : n ≤ 10) (hi : i < n) (hj : j ≤ n) (hc : M 151 x = nI n) (hal : M 134 1 = nI al) (hpo : M 134 2 = nI po) {O : Op} (hO : ∀ f, f < 6 → ∀ j, j < n → M (152 + f) (10 * x + j) = O f j) {t : Nat} {be : Int32} {re : Bool} (b_t : t ≤ 100000) {r_61 : Int32} {r_101 : Int32}
    (o1 : j < i → re = true → Run 128 (0, entL 128 [.ref 134, .int (nI j), .int (nI i)], [], M, κ) (.inl (some (.int r_61)), M, κ))
    (o2 : j < i → re = true → ¬ (r_61 = (-100000)) → ¬ ((M 159 ((10 * x) + j)) < 0) → Run 128 (0, entL 128 [.ref 134, .int (nI j), .int (nI i)], [], M, κ) (.inl (some (.int r_101)), M, κ))
    (k1 : j < i → RT 133 (44, [.ref 134, .int (nI x), .int (nI t), .int be, .int (nI i), .int (nI ((10 * x) + i)), .int (bI (if re = true then (if r_61 = (-100000) then true else (if (M 159 ((10 * x) + j)) < 0 then false else (if (nI t) < ((M 159 ((10 * x) + j)) + r_101) then false else true))) else false)), .int (nI (j + 1)), UU], [], M, κ) Q)
    (k2 : ¬ (j < i) → RT 133 (128, [.ref 134, .int (nI x), .int (nI t), .int be, .int (nI i), .int (nI ((10 * x) + i)), .int (bI re), .int (nI 0), .int (nI 0)], [], M, κ) Q)
    : RT 133 (44, [.ref 134, .int (nI x), .int (nI t), .int be, .int (nI i), .int (nI ((10 * x) + i)), .int (bI re), .int (nI j), UU], [], M, κ) Q := by
  refine w_load i_133_44 rfl rfl ?_
  refine w_load i_133_46 rfl rfl ?_
  refine w_if2n (j < i) i_133_48 (cN_ge (a := j) (b := i) (by omega) (by omega)) ?_ ?_
  · intro h1
    refine w_load i_133_51 rfl rfl ?_
    have K2 : RT 133 (114, [.ref 134, .int (nI x), .int (nI t), .int be, .int (nI i), .int (nI ((10 * x) + i)), .int (bI re), .int (nI j), UU], [.int (bI (if re = true then (if r_61 = (-100000) then true else (if (M 159 ((10 * x) + j)) < 0 then false else (if (nI t) < ((M 159 ((10 * x) + j)) + r_101) then false else true))) else false))], M, κ) Q := by
      refine w_store (l1 := [.ref 134, .int (nI x), .int (nI t), .int be, .int (nI i), .int (nI ((10 * x) + i)), .int (bI (if re = true then (if r_61 = (-100000) then true else (if (M 159 ((10 * x) + j)) < 0 then false else (if (nI t) < ((M 159 ((10 * x) + j)) + r_101) then false else true))) else false)), .int (nI j), UU]) i_133_114 rfl (Nat.le_of_ble_eq_true rfl) rfl ?_
      refine w_iincN (n := j) (l1 := [.ref 134, .int (nI x), .int (nI t), .int be, .int (nI i), .int (nI ((10 * x) + i)), .int (bI (if re = true then (if r_61 = (-100000) then true else (if (M 159 ((10 * x) + j)) < 0 then false else (if (nI t) < ((M 159 ((10 * x) + j)) + r_101) then false else true))) else false)), .int (nI (j + 1)), UU]) 1 i_133_116 rfl rfl ?_
      refine w_goto i_133_119 ?_
      exact (k1 h1)
    refine w_if0n (re = true) i_133_53 cB_eq ?_ ?_
    · intro h3
      refine w_load i_133_56 rfl rfl ?_
      refine w_load i_133_57 rfl rfl ?_
      refine w_load i_133_59 rfl rfl ?_
      refine w_callV (i := _) i_133_61 ⟨by decide, by decide, by decide, rfl⟩ hκ (⟨rfl, by decide⟩ : isOb 134 7) (av := [.int (nI j), .int (nI i)]) (rest := []) rfl rfl (Nat.le_of_ble_eq_true rfl) (v := some (.int r_61)) (o1 h1 h3) ?_
      refine w_push i_133_64 rfl ?_
      refine w_if2 (r_61 = (-100000)) i_133_66 cI_eq ?_ ?_
      · intro h4
        refine w_push i_133_109 rfl ?_
        refine w_goto i_133_110 ?_
        exact (by first | exact (K2) | (have K9 := K2; simp only [↓if_pos h3, ↓if_pos h4] at K9 ⊢; exact (K9)))
      · intro h5
        refine w_load i_133_69 rfl rfl ?_
        refine w_getR 159 i_133_70 hκ (⟨rfl, by decide⟩ : isOb 134 7) rfl rfl ?_
        refine w_push i_133_73 rfl ?_
        refine w_load i_133_75 rfl rfl ?_
        refine w_bin (w := (nI (10 * x))) i_133_76 rfl (nI_mul 10 x) ?_
        refine w_load i_133_77 rfl rfl ?_
        refine w_bin (w := (nI ((10 * x) + j))) i_133_79 rfl (nI_add (10 * x) j) ?_
        refine w_ialdN (e := ((10 * x) + j)) (v := (M 159 ((10 * x) + j))) i_133_80 hκ (⟨rfl, rfl, by decide⟩ : isAr 159 60) (by omega) (by decide) (rfl) ?_
        refine w_if0 ((M 159 ((10 * x) + j)) < 0) i_133_81 cI0_lt ?_ ?_
        · intro h6
          refine w_push i_133_113 rfl ?_
          exact (by first | exact (K2) | (have K9 := K2; simp only [↓if_pos h3, ↓if_neg h5, ↓if_pos h6] at K9 ⊢; exact (K9)))
        · intro h7
          refine w_load i_133_84 rfl rfl ?_
          refine w_getR 159 i_133_85 hκ (⟨rfl, by decide⟩ : isOb 134 7) rfl rfl ?_
          refine w_push i_133_88 rfl ?_
          refine w_load i_133_90 rfl rfl ?_
          refine w_bin (w := (nI (10 * x))) i_133_91 rfl (nI_mul 10 x) ?_
          refine w_load i_133_92 rfl rfl ?_
          refine w_bin (w := (nI ((10 * x) + j))) i_133_94 rfl (nI_add (10 * x) j) ?_
          refine w_ialdN (e := ((10 * x) + j)) (v := (M 159 ((10 * x) + j))) i_133_95 hκ (⟨rfl, rfl, by decide⟩ : isAr 159 60) (by omega) (by decide) (rfl) ?_
          refine w_load i_133_96 rfl rfl ?_
          refine w_load i_133_97 rfl rfl ?_
          refine w_load i_133_99 rfl rfl ?_
          refine w_callV (i := _) i_133_101 ⟨by decide, by decide, by decide, rfl⟩ hκ (⟨rfl, by decide⟩ : isOb 134 7) (av := [.int (nI j), .int (nI i)]) (rest := [.int (M 159 ((10 * x) + j))]) rfl rfl (Nat.le_of_ble_eq_true rfl) (v := some (.int r_101)) (o2 h1 h3 h5 h7) ?_
          refine w_bin (w := ((M 159 ((10 * x) + j)) + r_101)) i_133_104 rfl rfl ?_
          refine w_load i_133_105 rfl rfl ?_
          refine w_if2 ((nI t) < ((M 159 ((10 * x) + j)) + r_101)) i_133_106 cI_gt ?_ ?_
          · intro h8
            refine w_push i_133_113 rfl ?_
            exact (by first | exact (K2) | (have K9 := K2; simp only [↓if_pos h3, ↓if_neg h5, ↓if_neg h7, ↓if_pos h8] at K9 ⊢; exact (K9)))
          · intro h9
            refine w_push i_133_109 rfl ?_
            refine w_goto i_133_110 ?_
            exact (by first | exact (K2) | (have K9 := K2; simp only [↓if_pos h3, ↓if_neg h5, ↓if_neg h7, ↓if_neg h9] at K9 ⊢; exact (K9)))
    · intro h10
      refine w_push i_133_113 rfl ?_
      exact (by first | exact (K2) | (have K9 := K2; simp only [↓if_neg h10] at K9 ⊢; exact (K9)))
  · intro h11
    refine w_push i_133_122 rfl ?_
    refine w_store (l1 := [.ref 134, .int (nI x), .int (nI t), .int be, .int (nI i), .int (nI ((10 * x) + i)), .int (bI re), .int 0, UU]) i_133_123 rfl (Nat.le_of_ble_eq_true rfl) rfl ?_
    refine w_push i_133_125 rfl ?_
    refine w_store (l1 := [.ref 134, .int (nI x), .int (nI t), .int be, .int (nI i), .int (nI ((10 * x) + i)), .int (bI re), .int 0, .int 0]) i_133_126 rfl (Nat.le_of_ble_eq_true rfl) rfl ?_
    exact (k2 h11)
theorem S133_128 {Q : Ou → Prop} {M : Mem} {κ : Kp} (hκ : Rd κ) {x n i j al po : Nat} (hx : x < 6) (hn : n ≤ 10) (hi : i < n) (hj : j ≤ n) (hc : M 151 x = nI n) (hal : M 134 1 = nI al) (hpo : M 134 2 = nI po) {O : Op} (hO : ∀ f, f < 6 → ∀ j, j < n → M (152 + f) (10 * x + j) = O f j) {t : Nat} {be : Int32} {re : Bool} {us : Nat} (b_t : t ≤ 100000) (b_us : us ≤ 100000)
    (o1 : ¬ (j < n) → re = true → (nI us) < (if isP (O 0 i) = true then (nI po) else (nI al)) → ¬ (be < 0) → vp_in ((nI (10 * x)) + be) 60)
    (k1 : j < n → RT 133 (128, [.ref 134, .int (nI x), .int (nI t), .int be, .int (nI i), .int (nI ((10 * x) + i)), .int (bI re), .int (nI (us + (if (M 159 ((10 * x) + j)) = (nI t) then (if (bI (isP (O 0 j))) = (bI (isP (O 0 i))) then 1 else 0) else 0))), .int (nI (j + 1))], [], M, κ) Q)
    (k2 : ¬ (j < n) → RT 133 (5, [.ref 134, .int (nI x), .int (nI t), .int (if re = true then (if (nI us) < (if isP (O 0 i) = true then (nI po) else (nI al)) then (if be < 0 then (nI i) else (if (M 158 (((nI (10 * x)) + be).toNatClampNeg)) < (M 158 ((10 * x) + i)) then (nI i) else be)) else be) else be), .int (nI (i + 1)), UU, UU, UU, UU], [], M, κ) Q)
    : RT 133 (128, [.ref 134, .int (nI x), .int (nI t), .int be, .int (nI i), .int (nI ((10 * x) + i)), .int (bI re), .int (nI us), .int (nI j)], [], M, κ) Q := by
  refine w_load i_133_128 rfl rfl ?_
  refine w_load i_133_130 rfl rfl ?_
  refine w_getR 151 i_133_131 hκ (⟨rfl, by decide⟩ : isOb 134 7) rfl rfl ?_
  refine w_load i_133_134 rfl rfl ?_
  refine w_ialdN (e := x) (v := (nI n)) i_133_135 hκ (⟨rfl, rfl, by decide⟩ : isAr 151 6) (by omega) (by decide) (hc) ?_
  refine w_if2n (j < n) i_133_136 (cN_ge (a := j) (b := n) (by omega) (by omega)) ?_ ?_
  · intro h1
    refine w_load i_133_139 rfl rfl ?_
    refine w_load i_133_141 rfl rfl ?_
    refine w_getR 159 i_133_142 hκ (⟨rfl, by decide⟩ : isOb 134 7) rfl rfl ?_
    refine w_push i_133_145 rfl ?_
    refine w_load i_133_147 rfl rfl ?_
    refine w_bin (w := (nI (10 * x))) i_133_148 rfl (nI_mul 10 x) ?_
    refine w_load i_133_149 rfl rfl ?_
    refine w_bin (w := (nI ((10 * x) + j))) i_133_151 rfl (nI_add (10 * x) j) ?_
    refine w_ialdN (e := ((10 * x) + j)) (v := (M 159 ((10 * x) + j))) i_133_152 hκ (⟨rfl, rfl, by decide⟩ : isAr 159 60) (by omega) (by decide) (rfl) ?_
    refine w_load i_133_153 rfl rfl ?_
    have K2 : RT 133 (182, [.ref 134, .int (nI x), .int (nI t), .int be, .int (nI i), .int (nI ((10 * x) + i)), .int (bI re), .int (nI us), .int (nI j)], [.int (nI (if (M 159 ((10 * x) + j)) = (nI t) then (if (bI (isP (O 0 j))) = (bI (isP (O 0 i))) then 1 else 0) else 0)), .int (nI us)], M, κ) Q := by
      refine w_bin (w := (nI (us + (if (M 159 ((10 * x) + j)) = (nI t) then (if (bI (isP (O 0 j))) = (bI (isP (O 0 i))) then 1 else 0) else 0)))) i_133_182 rfl (nI_add us (if (M 159 ((10 * x) + j)) = (nI t) then (if (bI (isP (O 0 j))) = (bI (isP (O 0 i))) then 1 else 0) else 0)) ?_
      refine w_store (l1 := [.ref 134, .int (nI x), .int (nI t), .int be, .int (nI i), .int (nI ((10 * x) + i)), .int (bI re), .int (nI (us + (if (M 159 ((10 * x) + j)) = (nI t) then (if (bI (isP (O 0 j))) = (bI (isP (O 0 i))) then 1 else 0) else 0))), .int (nI j)]) i_133_183 rfl (Nat.le_of_ble_eq_true rfl) rfl ?_
      refine w_iincN (n := j) (l1 := [.ref 134, .int (nI x), .int (nI t), .int be, .int (nI i), .int (nI ((10 * x) + i)), .int (bI re), .int (nI (us + (if (M 159 ((10 * x) + j)) = (nI t) then (if (bI (isP (O 0 j))) = (bI (isP (O 0 i))) then 1 else 0) else 0))), .int (nI (j + 1))]) 1 i_133_185 rfl rfl ?_
      refine w_goto i_133_188 ?_
      exact (k1 h1)
    refine w_if2n ((M 159 ((10 * x) + j)) = (nI t)) i_133_154 cI_ne ?_ ?_
    · intro h3
      refine w_load i_133_157 rfl rfl ?_
      refine w_push i_133_158 rfl ?_
      refine w_load i_133_160 rfl rfl ?_
      refine w_bin (w := (nI (10 * x))) i_133_161 rfl (nI_mul 10 x) ?_
      refine w_load i_133_162 rfl rfl ?_
      refine w_bin (w := (nI ((10 * x) + j))) i_133_164 rfl (nI_add (10 * x) j) ?_
      refine w_callV (i := _) i_133_165 ⟨by decide, by decide, by decide, rfl⟩ hκ (⟨rfl, by decide⟩ : isOb 134 7) (av := [.int (nI ((10 * x) + j))]) (rest := [.int (nI us)]) rfl rfl (Nat.le_of_ble_eq_true rfl) (v := some (.int (bI (isP (O 0 j))))) (c116 hκ (by omega) (hO 0 (by decide) j (by omega))) ?_
      refine w_load i_133_168 rfl rfl ?_
      refine w_load i_133_169 rfl rfl ?_
      refine w_callV (i := _) i_133_171 ⟨by decide, by decide, by decide, rfl⟩ hκ (⟨rfl, by decide⟩ : isOb 134 7) (av := [.int (nI ((10 * x) + i))]) (rest := [.int (bI (isP (O 0 j))), .int (nI us)]) rfl rfl (Nat.le_of_ble_eq_true rfl) (v := some (.int (bI (isP (O 0 i))))) (c116 hκ (by omega) (hO 0 (by decide) i (by omega))) ?_
      refine w_if2n ((bI (isP (O 0 j))) = (bI (isP (O 0 i)))) i_133_174 cI_ne ?_ ?_
      · intro h4
        refine w_push i_133_177 rfl ?_
        refine w_goto i_133_178 ?_
        exact (by first | exact (K2) | (have K9 := K2; simp only [↓if_pos h3, ↓if_pos h4] at K9 ⊢; exact (K9)))
      · intro h5
        refine w_push i_133_181 rfl ?_
        exact (by first | exact (K2) | (have K9 := K2; simp only [↓if_pos h3, ↓if_neg h5] at K9 ⊢; exact (K9)))
    · intro h6
      refine w_push i_133_181 rfl ?_
      exact (by first | exact (K2) | (have K9 := K2; simp only [↓if_neg h6] at K9 ⊢; exact (K9)))
  · intro h7
    refine w_load i_133_191 rfl rfl ?_
    have K8 : RT 133 (235, [.ref 134, .int (nI x), .int (nI t), .int (if re = true then (if (nI us) < (if isP (O 0 i) = true then (nI po) else (nI al)) then (if be < 0 then (nI i) else (if (M 158 (((nI (10 * x)) + be).toNatClampNeg)) < (M 158 ((10 * x) + i)) then (nI i) else be)) else be) else be), .int (nI i), .int (nI ((10 * x) + i)), .int (bI re), .int (nI us), .int (nI j)], [], M, κ) Q := by
      refine w_iincN (n := i) (l1 := [.ref 134, .int (nI x), .int (nI t), .int (if re = true then (if (nI us) < (if isP (O 0 i) = true then (nI po) else (nI al)) then (if be < 0 then (nI i) else (if (M 158 (((nI (10 * x)) + be).toNatClampNeg)) < (M 158 ((10 * x) + i)) then (nI i) else be)) else be) else be), .int (nI (i + 1)), .int (nI ((10 * x) + i)), .int (bI re), .int (nI us), .int (nI j)]) 1 i_133_235 rfl rfl ?_
      refine w_goto i_133_238 ?_
      exact w_weak (lle_s (lle_s (lle_s (lle_s (lle_s (lle_u (lle_u (lle_u (lle_u lle_n))))))))) (k2 h7)
    refine w_if0n (re = true) i_133_193 cB_eq ?_ ?_
    · intro h9
      refine w_load i_133_196 rfl rfl ?_
      refine w_load i_133_198 rfl rfl ?_
      refine w_load i_133_199 rfl rfl ?_
      refine w_callV (i := _) i_133_201 ⟨by decide, by decide, by decide, rfl⟩ hκ (⟨rfl, by decide⟩ : isOb 134 7) (av := [.int (nI ((10 * x) + i))]) (rest := [.int (nI us)]) rfl rfl (Nat.le_of_ble_eq_true rfl) (v := some (.int (if isP (O 0 i) = true then (nI po) else (nI al)))) (c130 hκ (by omega) (hO 0 (by decide) i (by omega)) (hpo) (hal)) ?_
      refine w_if2n ((nI us) < (if isP (O 0 i) = true then (nI po) else (nI al))) i_133_204 cI_ge ?_ ?_
      · intro h10
        refine w_load i_133_207 rfl rfl ?_
        refine w_if0 (be < 0) i_133_208 cI0_lt ?_ ?_
        · intro h11
          refine w_load i_133_232 rfl rfl ?_
          refine w_store (l1 := [.ref 134, .int (nI x), .int (nI t), .int (nI i), .int (nI i), .int (nI ((10 * x) + i)), .int (bI re), .int (nI us), .int (nI j)]) i_133_234 rfl (Nat.le_of_ble_eq_true rfl) rfl ?_
          exact (by first | exact (K8) | (have K9 := K8; simp only [↓if_pos h9, ↓if_pos h10, ↓if_pos h11] at K9 ⊢; exact (K9)))
        · intro h12
          refine w_load i_133_211 rfl rfl ?_
          refine w_getR 158 i_133_212 hκ (⟨rfl, by decide⟩ : isOb 134 7) rfl rfl ?_
          refine w_load i_133_215 rfl rfl ?_
          refine w_ialdN (e := ((10 * x) + i)) (v := (M 158 ((10 * x) + i))) i_133_217 hκ (⟨rfl, rfl, by decide⟩ : isAr 158 60) (by omega) (by decide) (rfl) ?_
          refine w_load i_133_218 rfl rfl ?_
          refine w_getR 158 i_133_219 hκ (⟨rfl, by decide⟩ : isOb 134 7) rfl rfl ?_
          refine w_push i_133_222 rfl ?_
          refine w_load i_133_224 rfl rfl ?_
          refine w_bin (w := (nI (10 * x))) i_133_225 rfl (nI_mul 10 x) ?_
          refine w_load i_133_226 rfl rfl ?_
          refine w_bin (w := ((nI (10 * x)) + be)) i_133_227 rfl rfl ?_
          refine w_iald (v := (M 158 (((nI (10 * x)) + be).toNatClampNeg))) i_133_228 hκ (⟨rfl, rfl, by decide⟩ : isAr 158 60) (o1 h7 h9 h10 h12) (rfl) ?_
          refine w_if2n ((M 158 (((nI (10 * x)) + be).toNatClampNeg)) < (M 158 ((10 * x) + i))) i_133_229 cI_le ?_ ?_
          · intro h13
            refine w_load i_133_232 rfl rfl ?_
            refine w_store (l1 := [.ref 134, .int (nI x), .int (nI t), .int (nI i), .int (nI i), .int (nI ((10 * x) + i)), .int (bI re), .int (nI us), .int (nI j)]) i_133_234 rfl (Nat.le_of_ble_eq_true rfl) rfl ?_
            exact (by first | exact (K8) | (have K9 := K8; simp only [↓if_pos h9, ↓if_pos h10, ↓if_neg h12, ↓if_pos h13] at K9 ⊢; exact (K9)))
          · intro h14
            exact (by first | exact (K8) | (have K9 := K8; simp only [↓if_pos h9, ↓if_pos h10, ↓if_neg h12, ↓if_neg h14] at K9 ⊢; exact (K9)))
      · intro h15
        exact (by first | exact (K8) | (have K9 := K8; simp only [↓if_pos h9, ↓if_neg h15] at K9 ⊢; exact (K9)))
    · intro h16
      exact (by first | exact (K8) | (have K9 := K8; simp only [↓if_neg h16] at K9 ⊢; exact (K9)))
variable {Q : Ou → Prop} {M M0 : Mem} {κ : Kp}
/-- a cycle, or none -/
def cyc (v : Int32) : Prop := v = -1 ∨ ∃ a : Nat, a ≤ 100000 ∧ v = nI a
theorem cyc_neg {v : Int32} (h : cyc v) : v < 0 ↔ v = -1 := by
  rcases h with rfl | ⟨a, ha, rfl⟩
  · exact ⟨fun _ => rfl, fun _ => by decide⟩
  · rw [ltI, nI_toInt (by omega), c0]
    exact ⟨fun z => by omega, fun z => absurd z (nI_m1 (by omega))⟩
section S
variable {x n t : Nat} {W : Nat → Nat → Option Int32} {c H L : Nat → Int32} {U : Bool → Nat} {O : Op}
/-- what asksAtOnce answers -/
def Aask (κ : Kp) (n : Nat) (W : Nat → Nat → Option Int32) (M0 : Mem) : Prop := ∀ M, (∀ o x, 165 ≤ o ∧ o ≤ 167 → M o x = M0 o x) → ∀ i j, i < j → j < n → Run 128 (0, entL 128 [.ref 134, .int (nI i), .int (nI j)], [], M, κ) (.inl (some (.int (enc (-100000) (W i j)))), M, κ)
theorem f133 (hκ : Rd κ) (hx : x < 6) (hn : n ≤ 10) (ht : t ≤ 1000) (hc : M 151 x = nI n) (hal : M 134 1 = nI (U false)) (hpo : M 134 2 = nI (U true)) (hU : ∀ b, U b ≤ 10) (hO : ∀ f, f < 6 → ∀ j, j < n → M (152 + f) (10 * x + j) = O f j) (hA : Aask κ n W M) (hr : Wrg n W) (hH : ∀ k, k < n → M 158 (10 * x + k) = H k) (hcy : ∀ k, k < n → M 159 (10 * x + k) = c k) (hcc : ∀ k, k < n → cyc (c k)) : Run 133 (0, entL 133 [.ref 134, .int (nI x), .int (nI t)], [], M, κ) (.inl (some (.int (eo (pk n W H (fun k => isP (O 0 k)) U c (nI t) n)))), M, κ) := by
  refine RT_run (S133_0 (i := 0) (j := 0) hκ hx hn (by omega) (by omega) hc hal hpo hO (by omega) ?_)
  refine loopI (n := n) (fun k be => RT 133 (5, [.ref 134, .int (nI x), .int (nI t), .int be, .int (nI k), UU, UU, UU, UU], [], M, κ) _) (fun k be => be = eo (pk n W H (fun k => isP (O 0 k)) U c (nI t) k)) (fun i be hi hI ih => ?_) (fun be hI => ?_) 0 _ (Nat.zero_le _) rfl
  · have hci := hcy i hi
    refine S133_5 (j := 0) hκ hx hn (by omega) (by omega) hc hal hpo hO (by omega) (fun _ h => ?_) (fun _ h => ih _ ?_) (fun z => absurd hi z)
    · rw [hci, cyc_neg (hcc i hi)] at h
      refine loopI (n := i) (fun j re => RT 133 (44, [.ref 134, .int (nI x), .int (nI t), .int be, .int (nI i), .int (nI ((10 * x) + i)), .int (bI re), .int (nI j), UU], [], M, κ) _) (fun j re => re = rdy W c i (nI t) j) (fun j re hj hJ ih2 => ?_) (fun re hJ => ?_) 0 true (Nat.zero_le _) rfl
      · have hjn : j < n := by omega
        refine S133_44 (r_61 := enc (-100000) (W j i)) (r_101 := enc (-100000) (W j i)) hκ hx hn hi (by omega) hc hal hpo hO (by omega) (fun _ _ => hA M (fun _ _ _ => rfl) j i hj hi) (fun _ _ _ _ => hA M (fun _ _ _ => rfl) j i hj hi) (fun _ => ih2 _ ?_) (fun z => absurd hj z)
        rw [hJ, rdy]
        cases q : rdy W c i (nI t) j with
        | false => rfl
        | true =>
          rw [if_pos rfl, Bool.true_and, edk]
          have ho := Wrg_M hr hjn hi
          cases q2 : W j i with
          | none => exact if_pos rfl
          | some w =>
            rw [q2] at ho
            rw [if_neg (show ¬ enc (-100000) (some w) = -100000 from enc_ne (ho w rfl)), hcy j hjn]
            by_cases q3 : c j = -1
            · rw [if_pos ((cyc_neg (hcc j hjn)).mpr q3)]
              exact (decide_eq_false (fun z => z.1 q3)).symm
            · rw [if_neg (fun z => q3 ((cyc_neg (hcc j hjn)).mp z))]
              show (if nI t < c j + w then false else true) = _
              by_cases q4 : nI t < c j + w
              · rw [if_pos q4]
                exact (decide_eq_false (fun z => z.2 q4)).symm
              · rw [if_neg q4]
                exact (decide_eq_true ⟨q3, q4⟩).symm
      · refine S133_44 (r_61 := 0) (r_101 := 0) hκ hx hn hi (by omega) hc hal hpo hO (by omega) (fun z => absurd z (Nat.lt_irrefl _)) (fun z => absurd z (Nat.lt_irrefl _)) (fun z => absurd z (Nat.lt_irrefl _)) (fun _ => ?_)
        refine loopI (n := n) (fun j us => RT 133 (128, [.ref 134, .int (nI x), .int (nI t), .int be, .int (nI i), .int (nI ((10 * x) + i)), .int (bI re), .int (nI us), .int (nI j)], [], M, κ) _) (fun j us => us = use (fun k => isP (O 0 k)) c (isP (O 0 i)) (nI t) j) (fun j us hj hK ih3 => ?_) (fun us hK => ?_) 0 0 (Nat.zero_le _) rfl
        · have hul := use_le (Pt := fun k => isP (O 0 k)) (c := c) (t := nI t) (d := isP (O 0 i)) j
          refine S133_128 hκ hx hn hi (by omega) hc hal hpo hO (by omega) (by omega) (fun z => absurd hj z) (fun _ => ih3 _ ?_) (fun z => absurd hj z)
          rw [hK, use, hcy j hj]
          congr 1
          by_cases q1 : c j = nI t
          · rw [if_pos q1]
            by_cases q2 : isP (O 0 j) = isP (O 0 i)
            · rw [if_pos (by rw [q2]), if_pos ⟨q1, q2⟩]
            · rw [if_neg (fun z => q2 (bI_inj z)), if_neg (fun z => q2 z.2)]
          · rw [if_neg q1, if_neg (fun z => q1 z.1)]
        · have hul := use_le (Pt := fun k => isP (O 0 k)) (c := c) (t := nI t) (d := isP (O 0 i)) n
          refine S133_128 hκ hx hn hi (Nat.le_refl _) hc hal hpo hO (by omega) (by omega) (fun _ _ _ hb => ?_) (fun z => absurd z (Nat.lt_irrefl _)) (fun _ => ih _ ?_)
          · rw [hI] at hb ⊢
            cases q : pk n W H (fun k => isP (O 0 k)) U c (nI t) i with
            | none => rw [q] at hb; exact absurd (by decide) hb
            | some b =>
              have := (pkk_lt i b q).1
              show vp_in (nI (10 * x) + nI b) 60
              rw [nI_add]
              exact vp_in_nI (by omega) (by decide)
          · rw [hI, hJ, hK, pk]
            unfold eli
            rw [decide_eq_true h, Bool.true_and]
            have hfree : (nI (use (fun k => isP (O 0 k)) c (isP (O 0 i)) (nI t) n) < (if isP (O 0 i) = true then nI (U true) else nI (U false))) ↔ use (fun k => isP (O 0 k)) c (isP (O 0 i)) (nI t) n < U (isP (O 0 i)) := by
              have u1 := hU true
              have u2 := hU false
              cases isP (O 0 i) with
              | true => exact nI_ltI (by have := use_le (Pt := fun k => isP (O 0 k)) (c := c) (t := nI t) (d := true) n; omega) (by omega)
              | false => exact nI_ltI (by have := use_le (Pt := fun k => isP (O 0 k)) (c := c) (t := nI t) (d := false) n; omega) (by omega)
            by_cases q1 : rdy W c i (nI t) i = true
            · rw [if_pos q1]
              by_cases q2 : use (fun k => isP (O 0 k)) c (isP (O 0 i)) (nI t) n < U (isP (O 0 i))
              · rw [if_pos (hfree.mpr q2), decide_eq_true q2, q1, if_pos (show (true && true) = true from rfl)]
                cases q : pk n W H (fun k => isP (O 0 k)) U c (nI t) i with
                | none => exact if_pos (by decide)
                | some b =>
                  have hb := (pkk_lt i b q).1
                  show (if nI b < 0 then _ else if M 158 (nI (10 * x) + nI b).toNatClampNeg < M 158 (10 * x + i) then nI i else nI b) = _
                  rw [if_neg (by rw [ltI, nI_toInt (by omega), c0]; omega), nI_add, nI_clamp (by omega), hH b (by omega), hH i hi]
                  dsimp only
                  split <;> rfl
              · rw [if_neg (fun z => q2 (hfree.mp z)), decide_eq_false q2, Bool.false_and, if_neg (by decide)]
            · rw [if_neg q1, Bool.eq_false_iff.mpr q1, Bool.and_false, if_neg (by decide)]
    · rw [hci, cyc_neg (hcc i hi)] at h
      rw [hI, pk]
      unfold eli
      rw [decide_eq_false h, Bool.false_and, Bool.false_and, if_neg (by decide)]
  · refine S133_5 (j := 0) hκ hx hn (Nat.le_refl _) (by omega) hc hal hpo hO (by omega) (fun z => absurd z (Nat.lt_irrefl _)) (fun z => absurd z (Nat.lt_irrefl _)) (fun _ => ?_)
    rw [hI]
/-- the greatest end of those that are scheduled -/
def Lm (c L : Nat → Int32) : Nat → Int32
  | 0 => 0
  | m + 1 => if c m = -1 then Lm c L m else mx (Lm c L m) (c m + L m)
theorem mx_ac {a b d : Int32} : mx (mx a b) d = mx (mx a d) b := by
  apply Int32.toInt_inj.mp
  rw [mx_toInt, mx_toInt, mx_toInt, mx_toInt]
  omega
theorem Lm_up {b : Nat} {v : Int32} (hb : c b = -1) (hv : ¬ v = -1) (m : Nat) : Lm (up c b v) L m = if b < m then mx (Lm c L m) (v + L b) else Lm c L m := by
  induction m with
  | zero => rw [if_neg (Nat.not_lt_zero b)]; rfl
  | succ m ih =>
    rw [Lm, Lm, ih]
    by_cases e : m = b
    · subst e
      rw [up_s, if_neg hv, if_neg (Nat.lt_irrefl _), if_pos (Nat.lt_succ_self _), if_pos hb]
    · rw [up_o e]
      by_cases q : c m = -1
      · rw [if_pos q, if_pos q]
        by_cases q2 : b < m
        · rw [if_pos q2, if_pos (by omega)]
        · rw [if_neg q2, if_neg (by omega)]
      · rw [if_neg q, if_neg q]
        by_cases q2 : b < m
        · rw [if_pos q2, if_pos (by omega), mx_ac]
        · rw [if_neg q2, if_neg (by omega)]
theorem Lm_end : ∀ m, (∀ k, k < m → ¬ c k = -1) → Lm c L m = endF c L m := fun m => by
  induction m with
  | zero => exact fun _ => rfl
  | succ m ih =>
    intro h
    rw [Lm, if_neg (h m (Nat.lt_succ_self m)), ih (fun k hk => h k (by omega))]
    rfl
theorem Lm_full (h : sch c n = n) : Lm c L n = endF c L n := Lm_end n (fun k hk => sch_full n h k hk)
theorem Lm_none (m : Nat) : Lm (fun _ => -1) L m = 0 := by
  induction m with
  | zero => rfl
  | succ m ih => rw [Lm, if_pos rfl, ih]
theorem gb_from {V : Nat → Int32} {k : Nat} {m : Int32} (h : ∀ j, j ≤ k → W k j = none) : fo (fun j acc => ow (W k j) acc (fun w => mx acc (w + V j))) m (k + 1) = m := by
  have : ∀ d, d ≤ k + 1 → fo (fun j acc => ow (W k j) acc (fun w => mx acc (w + V j))) m d = m := by
    intro d
    induction d with
    | zero => exact fun _ => rfl
    | succ d ih =>
      intro hd
      show ow (W k d) _ _ = m
      rw [h d (by omega)]
      exact ih (by omega)
  exact this (k + 1) (Nat.le_refl _)
theorem f132 (hκ : Rd κ) {pl mu di lo : Int32} {t0 : Nat} (hx : x < 6) (hn : n ≤ 10) (hc : M0 151 x = nI n) (hal : M0 134 1 = nI (U false)) (hpo : M0 134 2 = nI (U true)) (hU : ∀ b, 1 ≤ U b ∧ U b ≤ 10) (hpl : M0 134 3 = pl) (hmu : M0 134 4 = mu) (hdi : M0 134 5 = di) (hlo : M0 134 6 = lo) (hO : ∀ f, f < 6 → ∀ j, j < n → M0 (152 + f) (10 * x + j) = O f j) (hl : ∀ k, k < n → latF pl mu di lo (O 0 k) = L k) (hA : Aask κ n W M0) (hr : Wrg n W) (hlt : ∀ i j, i < n → j < n → W i j ≠ none → i < j)
    (hH : ∀ k, k < n → H k = gb W H k (L k) n) (hL : Lr n W H (fun k => isP (O 0 k)) U c t0) (hfu : sch c n = n)
    (K : ∀ M : Mem, (∀ o y, ¬ ((o = 158 ∧ 10 * x ≤ y ∧ y < 10 * x + n) ∨ (o = 159 ∧ 10 * x ≤ y ∧ y < 10 * x + n) ∨ (o = 161 ∧ y = x)) → M o y = M0 o y) → (∀ k, k < n → M 158 (10 * x + k) = H k) → (∀ k, k < n → M 159 (10 * x + k) = c k) → M 161 x = endF c L n → Q (.inl none, M, κ)) : RT 132 (0, entL 132 [.ref 134, .int (nI x)], [], M0, κ) Q := by
  have fO : ∀ M : Mem, (∀ o y, ¬ (o = 158 ∨ o = 159 ∨ o = 161) → M o y = M0 o y) → ∀ f, f < 6 → ∀ j, j < n → M (152 + f) (10 * x + j) = O f j := fun M hf f h j hj => (hf _ _ (by omega)).trans (hO f h j hj)
  have fA : ∀ M : Mem, (∀ o y, ¬ (o = 158 ∨ o = 159 ∨ o = 161) → M o y = M0 o y) → Aask κ n W M := fun M hf M' h => hA M' (fun o y ho => (h o y ho).trans (hf o y (by omega)))
  have weak : ∀ M : Mem, (∀ o y, ¬ ((o = 158 ∧ 10 * x ≤ y ∧ y < 10 * x + n) ∨ (o = 159 ∧ 10 * x ≤ y ∧ y < 10 * x + n) ∨ (o = 161 ∧ y = x)) → M o y = M0 o y) → (∀ o y, ¬ (o = 158 ∨ o = 159 ∨ o = 161) → M o y = M0 o y) := fun M h o y ho => h o y (by omega)
  -- the second loop
  have S : ∀ d c t (M : Mem), 100 * (n - sch c n) + (90 - t) ≤ d → (∀ o y, ¬ ((o = 158 ∧ 10 * x ≤ y ∧ y < 10 * x + n) ∨ (o = 159 ∧ 10 * x ≤ y ∧ y < 10 * x + n) ∨ (o = 161 ∧ y = x)) → M o y = M0 o y) → (∀ k, k < n → M 158 (10 * x + k) = H k) → (∀ k, k < n → M 159 (10 * x + k) = c k) → M 161 x = Lm c L n → Lr n W H (fun k => isP (O 0 k)) U c t → Linv n c t → RT 132 (140, [.ref 134, .int (nI x), UU, .int (nI (n - sch c n)), .int (nI t), .int (eo (pk n W H (fun k => isP (O 0 k)) U c (nI t) n))], [], M, κ) Q := by
    intro d
    induction d with
    | zero =>
      intro c t M hd _ _ _ _ _ hI
      have := (Linv_le hI hn).1
      omega
    | succ d ih =>
      intro c' t M hd hf hHM hcy hlen hR hI
      have hI1 := Linv_le hI hn
      have hcc : ∀ k, k < n → cyc (c' k) := fun k hk => by
        by_cases q : c' k = -1
        · exact .inl q
        · obtain ⟨a, h1, h2, h3⟩ := hI1.2 k hk q
          exact .inr ⟨a, by omega, h1⟩
      have hsl := sch_le (c := c') n
      have hf' := weak M hf
      have hc1 := (hf' 151 x (by omega)).trans hc
      cases q : pk n W H (fun k => isP (O 0 k)) U c' (nI t) n with
      | none =>
        refine Sm132_140 hκ hx (by omega) ?_
        by_cases hfull : sch c' n = n
        · refine S132_127 (r_135 := 0) hκ hx (by omega) (fun z => ?_) (fun z => ?_) (fun _ => ?_)
          · rw [hfull, Nat.sub_self] at z; exact absurd z (by decide)
          · rw [hfull, Nat.sub_self] at z; exact absurd z (by decide)
          · have e := Lr_uni hR hL hfull hfu
            subst e
            exact K M hf hHM hcy (hlen.trans (Lm_full hfull))
        · have hI2 := Linv_next hI hn (fun b => (hU b).1) hr hfull q
          refine S132_127 (r_135 := eo (pk n W H (fun k => isP (O 0 k)) U c' (nI (t + 1)) n)) hκ hx (by omega) (fun _ => ?_) (fun _ => ?_) (fun z => ?_)
          · exact f133 hκ hx hn (by omega) hc1 ((hf' _ _ (by omega)).trans hal) ((hf' _ _ (by omega)).trans hpo) (fun b => (hU b).2) (fO M hf') (fA M hf') hr hHM hcy hcc
          · exact ih c' (t + 1) M (by have := (Linv_le hI2 hn).1; omega) hf hHM hcy hlen (Lr_next hR hfull q) hI2
          · exfalso
            refine z ?_
            rw [ltI, nI_toInt (by omega), c0]
            omega
      | some b =>
        have hb := pkk_lt n b q
        have hb1 := eli_m1 hb.2
        have hnt : ¬ nI t = -1 := nI_m1 (by omega)
        have hI2 := Linv_pick hI hn hb.1 hb1
        have hR2 := Lr_pick hR q
        have hsu := sch_up (c := c') hb1 hnt n
        rw [if_pos hb.1] at hsu
        have hf2 : ∀ o y, ¬ ((o = 158 ∧ 10 * x ≤ y ∧ y < 10 * x + n) ∨ (o = 159 ∧ 10 * x ≤ y ∧ y < 10 * x + n) ∨ (o = 161 ∧ y = x)) → stM (stM M 159 (10 * x + b) (nI t)) 161 x (mx (M 161 x) (nI t + latF pl mu di lo (O 0 b))) o y = M0 o y := fun o y h => by
          have := hb.1
          rw [stM_n (by omega), stM_n (by omega)]
          exact hf o y h
        have hcy2 : ∀ k, k < n → stM (stM M 159 (10 * x + b) (nI t)) 161 x (mx (M 161 x) (nI t + latF pl mu di lo (O 0 b))) 159 (10 * x + k) = up c' b (nI t) k := fun k hk => by
          rw [stM_o (by decide)]
          by_cases e : k = b
          · rw [e, stM_s, up_s]
          · rw [stM_j (by omega), up_o e]
            exact hcy k hk
        have hcc2 : ∀ k, k < n → cyc (up c' b (nI t) k) := fun k hk => by
          by_cases e : k = b
          · rw [e, up_s]
            exact .inr ⟨t, by omega, rfl⟩
          · rw [up_o e]
            exact hcc k hk
        have hH2 : ∀ k, k < n → stM (stM M 159 (10 * x + b) (nI t)) 161 x (mx (M 161 x) (nI t + latF pl mu di lo (O 0 b))) 158 (10 * x + k) = H k := fun k hk => (stM_o (by decide)).trans ((stM_o (by decide)).trans (hHM k hk))
        have e9 : nI (n - sch c' n) + (-1) = nI (n - sch (up c' b (nI t)) n) := by
          have hle := sch_le (c := up c' b (nI t)) n
          rw [nI_dec9, nI_sub1 (by omega)]
          congr 1
          omega
        refine S132_140 (r_196 := eo (pk n W H (fun k => isP (O 0 k)) U (up c' b (nI t)) (nI t) n)) hκ hx hn hb.1 hc1 (fO M hf') ((hf' _ _ (by omega)).trans hpl) ((hf' _ _ (by omega)).trans hmu) ((hf' _ _ (by omega)).trans hdi) ((hf' _ _ (by omega)).trans hlo) (by omega) (fun _ => ?_) (fun z => absurd z (Nat.not_lt_zero _)) (fun _ => ?_)
        · exact f133 hκ hx hn (by omega) ((weak _ hf2 _ _ (by omega)).trans hc) ((weak _ hf2 _ _ (by omega)).trans hal) ((weak _ hf2 _ _ (by omega)).trans hpo) (fun b => (hU b).2) (fO _ (weak _ hf2)) (fA _ (weak _ hf2)) hr hH2 hcy2 hcc2
        · rw [e9]
          have hle9 := sch_le (c := up c' b (nI t)) n
          refine ih (up c' b (nI t)) t _ (by omega) hf2 hH2 hcy2 ?_ hR2 hI2
          rw [stM_s, Lm_up hb1 hnt n, if_pos hb.1, hlen, hl b hb.1]
  -- the first loop
  have A : ∀ m (M : Mem), m ≤ n → (∀ o y, ¬ ((o = 158 ∧ 10 * x ≤ y ∧ y < 10 * x + n) ∨ (o = 159 ∧ 10 * x ≤ y ∧ y < 10 * x + n)) → M o y = M0 o y) → (∀ k, m ≤ k → k < n → M 158 (10 * x + k) = H k ∧ M 159 (10 * x + k) = -1) → RT 132 (11, [.ref 134, .int (nI x), .int (nI n), .int (nI m - 1), UU, UU], [], M, κ) Q := by
    intro m
    induction m with
    | zero =>
      intro M hm hf hV
      rw [km1]
      refine Sm132_11 hκ hx ?_
      have hf2 : ∀ o y, ¬ ((o = 158 ∧ 10 * x ≤ y ∧ y < 10 * x + n) ∨ (o = 159 ∧ 10 * x ≤ y ∧ y < 10 * x + n) ∨ (o = 161 ∧ y = x)) → stM M 161 x 0 o y = M0 o y := fun o y h => by
        rw [stM_n (by omega)]
        exact hf o y (by omega)
      have hf' := weak _ hf2
      have hHM : ∀ k, k < n → stM M 161 x 0 158 (10 * x + k) = H k := fun k hk => (stM_o (by decide)).trans (hV k (Nat.zero_le _) hk).1
      have hcy : ∀ k, k < n → stM M 161 x 0 159 (10 * x + k) = (fun _ => -1) k := fun k hk => (stM_o (by decide)).trans (hV k (Nat.zero_le _) hk).2
      by_cases hn0 : n = 0
      · subst hn0
        refine S132_127 (t := 0) (r_135 := 0) hκ hx (by omega) (fun z => absurd z (by decide)) (fun z => absurd z (by decide)) (fun _ => ?_)
        exact K _ hf2 (fun k hk => absurd hk (Nat.not_lt_zero _)) (fun k hk => absurd hk (Nat.not_lt_zero _)) stM_s
      · refine S132_127 (t := 0) (r_135 := eo (pk n W H (fun k => isP (O 0 k)) U (fun _ => -1) (nI 0) n)) hκ hx (by omega) (fun _ => ?_) (fun _ => ?_) (fun z => ?_)
        · exact f133 hκ hx hn (by omega) ((hf' _ _ (by omega)).trans hc) ((hf' _ _ (by omega)).trans hal) ((hf' _ _ (by omega)).trans hpo) (fun b => (hU b).2) (fO _ hf') (fA _ hf') hr hHM hcy (fun _ _ => .inl rfl)
        · have hh := S (100 * n + 90) (fun _ => -1) 0 (stM M 161 x 0) (by rw [sch_none]; omega) hf2 hHM hcy (stM_s.trans (Lm_none n).symm) Lr_0 Linv_0
          rw [sch_none, Nat.sub_zero] at hh
          exact hh
        · exfalso
          refine z ?_
          rw [ltI, nI_toInt (by omega), c0]
          omega
    | succ m ih =>
      intro M hm hf hV
      have hf' : ∀ o y, ¬ (o = 158 ∨ o = 159 ∨ o = 161) → M o y = M0 o y := fun o y h => hf o y (by omega)
      have hmn : m < n := hm
      have hc1 := (hf' 151 x (by omega)).trans hc
      rw [nI_sub1 (by omega), show m + 1 - 1 = m by omega]
      refine S132_11 hκ hx hn hmn hc1 (fO M hf') ((hf' _ _ (by omega)).trans hpl) ((hf' _ _ (by omega)).trans hmu) ((hf' _ _ (by omega)).trans hdi) ((hf' _ _ (by omega)).trans hlo) (fun z => absurd z (Nat.not_lt_zero _)) (fun _ => ?_)
      have hno : ∀ j, j ≤ m → W m j = none := fun j hj => by
        by_cases q : W m j = none
        · exact q
        · have := hlt m j hmn (by omega) q
          omega
      refine loopI (n := n) (fun j mo => RT 132 (32, [.ref 134, .int (nI x), .int (nI n), .int (nI m), .int mo, .int (nI j)], [], M, κ) Q) (fun j mo => m < j ∧ mo = fo (fun j acc => ow (W m j) acc (fun w => mx acc (w + H j))) (L m) j) (fun j mo hj hJ ih2 => ?_) (fun mo hJ => ?_) (m + 1) _ (by omega) ⟨Nat.lt_succ_self _, by rw [gb_from hno, hl m hmn]⟩
      · refine S132_32 (r_42 := enc (-100000) (W m j)) (r_57 := enc (-100000) (W m j)) hκ hx hn hmn hc1 (fO M hf') ((hf' _ _ (by omega)).trans hpl) ((hf' _ _ (by omega)).trans hmu) ((hf' _ _ (by omega)).trans hdi) ((hf' _ _ (by omega)).trans hlo) (by omega) (fun _ => fA M hf' M (fun _ _ _ => rfl) m j hJ.1 hj) (fun _ _ => fA M hf' M (fun _ _ _ => rfl) m j hJ.1 hj) (fun _ => ih2 _ ⟨by omega, ?_⟩) (fun z => absurd hj z)
        show _ = ow (W m j) (fo _ _ j) (fun w => mx (fo _ _ j) (w + H j))
        rw [← hJ.2]
        have ho := Wrg_M hr hmn hj
        cases q : W m j with
        | none => exact if_neg (by decide)
        | some w =>
          rw [q] at ho
          have := ho w rfl
          rw [(hV j (by omega) hj).1]
          exact if_pos (ltI.mpr this)
      · refine S132_32 (r_42 := 0) (r_57 := 0) hκ hx hn hmn hc1 (fO M hf') ((hf' _ _ (by omega)).trans hpl) ((hf' _ _ (by omega)).trans hmu) ((hf' _ _ (by omega)).trans hdi) ((hf' _ _ (by omega)).trans hlo) (Nat.le_refl _) (fun z => absurd z (Nat.lt_irrefl _)) (fun z => absurd z (Nat.lt_irrefl _)) (fun z => absurd z (Nat.lt_irrefl _)) (fun _ => ?_)
        rw [nI_dec9]
        have hmo : mo = H m := hJ.2.trans (hH m hmn).symm
        refine ih _ (by omega) (fun o y h => ?_) (fun k h1 h2 => ⟨?_, ?_⟩)
        · rw [stM_n (by omega), stM_n (by omega)]
          exact hf o y h
        · rw [stM_o (by decide)]
          by_cases e : k = m
          · rw [e, stM_s, hmo]
          · rw [stM_j (by omega)]
            exact (hV k (by omega) h2).1
        · by_cases e : k = m
          · rw [e, stM_s]
          · rw [stM_j (by omega), stM_o (by decide)]
            exact (hV k (by omega) h2).2
  refine S132_0 hκ hx hc ?_
  exact A n M0 (Nat.le_refl n) (fun _ _ _ => rfl) (fun k h1 h2 => absurd h2 (by omega))
end S
end P_31_list3
