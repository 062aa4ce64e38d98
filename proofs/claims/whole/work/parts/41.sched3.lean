/-! MODULO: the model schedules a block -/
section P_41_sched3
theorem i_131_0 : ins 131 0 = some (.aload_n 0, 1, 0, 0, 0, 0) := rfl
theorem i_131_1 : ins 131 1 = some (.iload_n 1, 2, 1, 0, 0, 0) := rfl
theorem i_131_2 : ins 131 2 = some (.invokevirtual 262, 5, 126, 0, 2, 0) := rfl
theorem i_131_5 : ins 131 5 = some (.aload_n 0, 6, 0, 0, 0, 0) := rfl
theorem i_131_6 : ins 131 6 = some (.iload_n 1, 7, 1, 0, 0, 0) := rfl
theorem i_131_7 : ins 131 7 = some (.invokevirtual 265, 10, 132, 0, 2, 0) := rfl
theorem i_131_10 : ins 131 10 = some (.aload_n 0, 11, 0, 0, 0, 0) := rfl
theorem i_131_11 : ins 131 11 = some (.getfield 111, 14, 7, 37, 0, 0) := rfl
theorem i_131_14 : ins 131 14 = some (.iload_n 1, 15, 1, 0, 0, 0) := rfl
theorem i_131_15 : ins 131 15 = some (.iconst 0, 16, 0, 0, 0, 0) := rfl
theorem i_131_16 : ins 131 16 = some (.iastore, 17, 0, 0, 0, 0) := rfl
theorem i_131_17 : ins 131 17 = some (.aload_n 0, 18, 0, 0, 0, 0) := rfl
theorem i_131_18 : ins 131 18 = some (.getfield 114, 21, 7, 38, 0, 0) := rfl
theorem i_131_21 : ins 131 21 = some (.iload_n 1, 22, 1, 0, 0, 0) := rfl
theorem i_131_22 : ins 131 22 = some (.iconst 0, 23, 0, 0, 0, 0) := rfl
theorem i_131_23 : ins 131 23 = some (.iastore, 24, 0, 0, 0, 0) := rfl
theorem i_131_24 : ins 131 24 = some (.aload_n 0, 25, 0, 0, 0, 0) := rfl
theorem i_131_25 : ins 131 25 = some (.getfield 117, 28, 7, 39, 0, 0) := rfl
theorem i_131_28 : ins 131 28 = some (.iload_n 1, 29, 1, 0, 0, 0) := rfl
theorem i_131_29 : ins 131 29 = some (.iconst 0, 30, 0, 0, 0, 0) := rfl
theorem i_131_30 : ins 131 30 = some (.iastore, 31, 0, 0, 0, 0) := rfl
theorem i_131_31 : ins 131 31 = some (.bipush 10, 33, 0, 0, 0, 10) := rfl
theorem i_131_33 : ins 131 33 = some (.iload_n 1, 34, 1, 0, 0, 0) := rfl
theorem i_131_34 : ins 131 34 = some (.imul, 35, 0, 0, 0, 0) := rfl
theorem i_131_35 : ins 131 35 = some (.istore_n 2, 36, 2, 0, 0, 0) := rfl
theorem S131_0 {Q : Ou → Prop} {M : Mem} {κ : Kp} (hκ : Rd κ) {x : Nat} (hx : x < 6) 
    (k1 : RT 126 (0, entL 126 [.ref 134, .int (nI x)], [], M, κ) (fun o => ∃ v M1 κ1, o = (.inl v, M1, κ1) ∧ RT 131 (5, [.ref 134, .int (nI x), UU, UU, UU], v.toList ++ [], M1, κ1) Q))
    : RT 131 (0, [.ref 134, .int (nI x), UU, UU, UU], [], M, κ) Q := by
  refine w_load i_131_0 rfl rfl ?_
  refine w_load i_131_1 rfl rfl ?_
  exact w_callVI (i := _) i_131_2 ⟨by decide, by decide, by decide, rfl⟩ hκ (⟨rfl, by decide⟩ : isOb 134 7) (av := [.int (nI x)]) (rest := []) rfl rfl (Nat.le_of_ble_eq_true rfl) (k1)
theorem S131_5 {Q : Ou → Prop} {M : Mem} {κ : Kp} (hκ : Rd κ) {x : Nat} (hx : x < 6) 
    (k1 : RT 132 (0, entL 132 [.ref 134, .int (nI x)], [], M, κ) (fun o => ∃ v M1 κ1, o = (.inl v, M1, κ1) ∧ RT 131 (10, [.ref 134, .int (nI x), UU, UU, UU], v.toList ++ [], M1, κ1) Q))
    : RT 131 (5, [.ref 134, .int (nI x), UU, UU, UU], [], M, κ) Q := by
  refine w_load i_131_5 rfl rfl ?_
  refine w_load i_131_6 rfl rfl ?_
  exact w_callVI (i := _) i_131_7 ⟨by decide, by decide, by decide, rfl⟩ hκ (⟨rfl, by decide⟩ : isOb 134 7) (av := [.int (nI x)]) (rest := []) rfl rfl (Nat.le_of_ble_eq_true rfl) (k1)
theorem S131_10 {Q : Ou → Prop} {M : Mem} {κ : Kp} (hκ : Rd κ) {x : Nat} (hx : x < 6) 
    (k1 : RT 131 (36, [.ref 134, .int (nI x), .int (nI (10 * x)), UU, UU], [], (stM (stM (stM M 162 x 0) 163 x 0) 164 x 0), κ) Q)
    : RT 131 (10, [.ref 134, .int (nI x), UU, UU, UU], [], M, κ) Q := by
  refine w_load i_131_10 rfl rfl ?_
  refine w_getR 162 i_131_11 hκ (⟨rfl, by decide⟩ : isOb 134 7) rfl rfl ?_
  refine w_load i_131_14 rfl rfl ?_
  refine w_push i_131_15 rfl ?_
  refine w_iastN (e := x) i_131_16 hκ (⟨rfl, rfl, by decide⟩ : isAr 162 6) (by omega) (by decide) ?_
  refine w_load i_131_17 rfl rfl ?_
  refine w_getR 163 i_131_18 hκ (⟨rfl, by decide⟩ : isOb 134 7) rfl rfl ?_
  refine w_load i_131_21 rfl rfl ?_
  refine w_push i_131_22 rfl ?_
  refine w_iastN (e := x) i_131_23 hκ (⟨rfl, rfl, by decide⟩ : isAr 163 6) (by omega) (by decide) ?_
  refine w_load i_131_24 rfl rfl ?_
  refine w_getR 164 i_131_25 hκ (⟨rfl, by decide⟩ : isOb 134 7) rfl rfl ?_
  refine w_load i_131_28 rfl rfl ?_
  refine w_push i_131_29 rfl ?_
  refine w_iastN (e := x) i_131_30 hκ (⟨rfl, rfl, by decide⟩ : isAr 164 6) (by omega) (by decide) ?_
  refine w_push i_131_31 rfl ?_
  refine w_load i_131_33 rfl rfl ?_
  refine w_bin (w := (nI (10 * x))) i_131_34 rfl (nI_mul 10 x) ?_
  refine w_store (l1 := [.ref 134, .int (nI x), .int (nI (10 * x)), UU, UU]) i_131_35 rfl (Nat.le_of_ble_eq_true rfl) rfl ?_
  exact (k1)
theorem i_131_36 : ins 131 36 = some (.iload_n 2, 37, 2, 0, 0, 0) := rfl
theorem i_131_37 : ins 131 37 = some (.bipush 10, 39, 0, 0, 0, 10) := rfl
theorem i_131_39 : ins 131 39 = some (.iload_n 1, 40, 1, 0, 0, 0) := rfl
theorem i_131_40 : ins 131 40 = some (.imul, 41, 0, 0, 0, 0) := rfl
theorem i_131_41 : ins 131 41 = some (.bipush 10, 43, 0, 0, 0, 10) := rfl
theorem i_131_43 : ins 131 43 = some (.iadd, 44, 0, 0, 0, 0) := rfl
theorem i_131_44 : ins 131 44 = some (.if_icmp .ge 16, 47, 60, 0, 0, 0) := rfl
theorem i_131_47 : ins 131 47 = some (.aload_n 0, 48, 0, 0, 0, 0) := rfl
theorem i_131_48 : ins 131 48 = some (.getfield 105, 51, 7, 35, 0, 0) := rfl
theorem i_131_51 : ins 131 51 = some (.iload_n 2, 52, 2, 0, 0, 0) := rfl
theorem i_131_52 : ins 131 52 = some (.iconst (-1), 53, 0, 0, 0, (-1)) := rfl
theorem i_131_53 : ins 131 53 = some (.iastore, 54, 0, 0, 0, 0) := rfl
theorem i_131_54 : ins 131 54 = some (.iinc 2 1, 57, 2, 0, 0, 1) := rfl
theorem i_131_57 : ins 131 57 = some (.goto (-21), 60, 36, 0, 0, 0) := rfl
theorem i_131_60 : ins 131 60 = some (.aload_n 0, 61, 0, 0, 0, 0) := rfl
theorem i_131_61 : ins 131 61 = some (.getfield 66, 64, 7, 22, 0, 0) := rfl
theorem i_131_64 : ins 131 64 = some (.iload_n 1, 65, 1, 0, 0, 0) := rfl
theorem i_131_65 : ins 131 65 = some (.iaload, 66, 0, 0, 0, 0) := rfl
theorem i_131_66 : ins 131 66 = some (.iconst 3, 67, 0, 0, 0, 3) := rfl
theorem i_131_67 : ins 131 67 = some (.if_icmp .ne 12, 70, 79, 0, 0, 0) := rfl
theorem i_131_70 : ins 131 70 = some (.aload_n 0, 71, 0, 0, 0, 0) := rfl
theorem i_131_71 : ins 131 71 = some (.getfield 78, 74, 7, 26, 0, 0) := rfl
theorem i_131_74 : ins 131 74 = some (.iload_n 1, 75, 1, 0, 0, 0) := rfl
theorem i_131_75 : ins 131 75 = some (.iaload, 76, 0, 0, 0, 0) := rfl
theorem i_131_76 : ins 131 76 = some (.ifCond .ne 4, 79, 80, 0, 0, 0) := rfl
theorem i_131_79 : ins 131 79 = some (.return_, 80, 0, 0, 0, 0) := rfl
theorem i_131_80 : ins 131 80 = some (.iconst 0, 81, 0, 0, 0, 0) := rfl
theorem i_131_81 : ins 131 81 = some (.istore_n 2, 82, 2, 0, 0, 0) := rfl
theorem i_131_82 : ins 131 82 = some (.bipush 10, 84, 0, 0, 0, 10) := rfl
theorem i_131_84 : ins 131 84 = some (.iload_n 1, 85, 1, 0, 0, 0) := rfl
theorem i_131_85 : ins 131 85 = some (.imul, 86, 0, 0, 0, 0) := rfl
theorem i_131_86 : ins 131 86 = some (.istore_n 3, 87, 3, 0, 0, 0) := rfl
theorem S131_36 {Q : Ou → Prop} {M : Mem} {κ : Kp} (hκ : Rd κ) {x i n : Nat} {e : Int32} (hx : x < 6) (hn : n ≤ 10) (hc : M 151 x = nI n) (he : M 147 x = e) (hi : i ≤ 10) 
    (k1 : ((10 * x) + i) < ((10 * x) + 10) → RT 131 (36, [.ref 134, .int (nI x), .int (nI (((10 * x) + i) + 1)), UU, UU], [], (stM M 160 ((10 * x) + i) (-1)), κ) Q)
    (k2 : ¬ (((10 * x) + i) < ((10 * x) + 10)) → (((e = 3) ∧ (n = 0)) ∨ (¬ (e = 3))) → Q (.inl none, M, κ))
    (k3 : ¬ (((10 * x) + i) < ((10 * x) + 10)) → e = 3 → ¬ (n = 0) → RT 131 (87, [.ref 134, .int (nI x), .int (nI 0), .int (nI (10 * x)), UU], [], M, κ) Q)
    : RT 131 (36, [.ref 134, .int (nI x), .int (nI ((10 * x) + i)), UU, UU], [], M, κ) Q := by
  refine w_load i_131_36 rfl rfl ?_
  refine w_push i_131_37 rfl ?_
  refine w_load i_131_39 rfl rfl ?_
  refine w_bin (w := (nI (10 * x))) i_131_40 rfl (nI_mul 10 x) ?_
  refine w_push i_131_41 rfl ?_
  refine w_bin (w := (nI ((10 * x) + 10))) i_131_43 rfl (nI_add (10 * x) 10) ?_
  refine w_if2n (((10 * x) + i) < ((10 * x) + 10)) i_131_44 (cN_ge (a := ((10 * x) + i)) (b := ((10 * x) + 10)) (by omega) (by omega)) ?_ ?_
  · intro h1
    refine w_load i_131_47 rfl rfl ?_
    refine w_getR 160 i_131_48 hκ (⟨rfl, by decide⟩ : isOb 134 7) rfl rfl ?_
    refine w_load i_131_51 rfl rfl ?_
    refine w_push i_131_52 rfl ?_
    refine w_iastN (e := ((10 * x) + i)) i_131_53 hκ (⟨rfl, rfl, by decide⟩ : isAr 160 60) (by omega) (by decide) ?_
    refine w_iincN (n := ((10 * x) + i)) (l1 := [.ref 134, .int (nI x), .int (nI (((10 * x) + i) + 1)), UU, UU]) 1 i_131_54 rfl rfl ?_
    refine w_goto i_131_57 ?_
    exact (k1 h1)
  · intro h2
    refine w_load i_131_60 rfl rfl ?_
    refine w_getR 147 i_131_61 hκ (⟨rfl, by decide⟩ : isOb 134 7) rfl rfl ?_
    refine w_load i_131_64 rfl rfl ?_
    refine w_ialdN (e := x) (v := e) i_131_65 hκ (⟨rfl, rfl, by decide⟩ : isAr 147 6) (by omega) (by decide) (he) ?_
    refine w_push i_131_66 rfl ?_
    have K3 : (((e = 3) ∧ (n = 0)) ∨ (¬ (e = 3))) → RT 131 (79, [.ref 134, .int (nI x), .int (nI ((10 * x) + i)), UU, UU], [], M, κ) Q := by
      intro h4
      exact w_vret i_131_79 rfl (k2 h2 h4)
    refine w_if2n (e = 3) i_131_67 cI_ne ?_ ?_
    · intro h5
      refine w_load i_131_70 rfl rfl ?_
      refine w_getR 151 i_131_71 hκ (⟨rfl, by decide⟩ : isOb 134 7) rfl rfl ?_
      refine w_load i_131_74 rfl rfl ?_
      refine w_ialdN (e := x) (v := (nI n)) i_131_75 hκ (⟨rfl, rfl, by decide⟩ : isAr 151 6) (by omega) (by decide) (hc) ?_
      refine w_if0n (n = 0) i_131_76 (cZ_ne (a := n) (by omega) (by decide)) ?_ ?_
      · intro h6
        exact (by first | exact (K3 (.inl ⟨h5, h6⟩)) | (have K9 := K3 (.inl ⟨h5, h6⟩); simp only [↓if_pos h5, ↓if_pos h6] at K9 ⊢; exact (K9)))
      · intro h7
        refine w_push i_131_80 rfl ?_
        refine w_store (l1 := [.ref 134, .int (nI x), .int 0, UU, UU]) i_131_81 rfl (Nat.le_of_ble_eq_true rfl) rfl ?_
        refine w_push i_131_82 rfl ?_
        refine w_load i_131_84 rfl rfl ?_
        refine w_bin (w := (nI (10 * x))) i_131_85 rfl (nI_mul 10 x) ?_
        refine w_store (l1 := [.ref 134, .int (nI x), .int 0, .int (nI (10 * x)), UU]) i_131_86 rfl (Nat.le_of_ble_eq_true rfl) rfl ?_
        exact (k3 h2 h5 h7)
    · intro h8
      exact (by first | exact (K3 (.inr h8)) | (have K9 := K3 (.inr h8); simp only [↓if_neg h8] at K9 ⊢; exact (K9)))
theorem i_131_87 : ins 131 87 = some (.iload_n 3, 88, 3, 0, 0, 0) := rfl
theorem i_131_88 : ins 131 88 = some (.bipush 10, 90, 0, 0, 0, 10) := rfl
theorem i_131_90 : ins 131 90 = some (.iload_n 1, 91, 1, 0, 0, 0) := rfl
theorem i_131_91 : ins 131 91 = some (.imul, 92, 0, 0, 0, 0) := rfl
theorem i_131_92 : ins 131 92 = some (.aload_n 0, 93, 0, 0, 0, 0) := rfl
theorem i_131_93 : ins 131 93 = some (.getfield 78, 96, 7, 26, 0, 0) := rfl
theorem i_131_96 : ins 131 96 = some (.iload_n 1, 97, 1, 0, 0, 0) := rfl
theorem i_131_97 : ins 131 97 = some (.iaload, 98, 0, 0, 0, 0) := rfl
theorem i_131_98 : ins 131 98 = some (.iadd, 99, 0, 0, 0, 0) := rfl
theorem i_131_99 : ins 131 99 = some (.if_icmp .ge 25, 102, 124, 0, 0, 0) := rfl
theorem i_131_102 : ins 131 102 = some (.iload_n 2, 103, 2, 0, 0, 0) := rfl
theorem i_131_103 : ins 131 103 = some (.aload_n 0, 104, 0, 0, 0, 0) := rfl
theorem i_131_104 : ins 131 104 = some (.iload_n 3, 105, 3, 0, 0, 0) := rfl
theorem i_131_105 : ins 131 105 = some (.invokevirtual 259, 108, 116, 0, 2, 0) := rfl
theorem i_131_108 : ins 131 108 = some (.ifCond .eq 7, 111, 115, 0, 0, 0) := rfl
theorem i_131_111 : ins 131 111 = some (.iconst 1, 112, 0, 0, 0, 1) := rfl
theorem i_131_112 : ins 131 112 = some (.goto 4, 115, 116, 0, 0, 0) := rfl
theorem i_131_115 : ins 131 115 = some (.iconst 0, 116, 0, 0, 0, 0) := rfl
theorem i_131_116 : ins 131 116 = some (.iadd, 117, 0, 0, 0, 0) := rfl
theorem i_131_117 : ins 131 117 = some (.istore_n 2, 118, 2, 0, 0, 0) := rfl
theorem i_131_118 : ins 131 118 = some (.iinc 3 1, 121, 3, 0, 0, 1) := rfl
theorem i_131_121 : ins 131 121 = some (.goto (-34), 124, 87, 0, 0, 0) := rfl
theorem i_131_124 : ins 131 124 = some (.aload_n 0, 125, 0, 0, 0, 0) := rfl
theorem i_131_125 : ins 131 125 = some (.iconst 1, 126, 0, 0, 0, 1) := rfl
theorem i_131_126 : ins 131 126 = some (.aload_n 0, 127, 0, 0, 0, 0) := rfl
theorem i_131_127 : ins 131 127 = some (.aload_n 0, 128, 0, 0, 0, 0) := rfl
theorem i_131_128 : ins 131 128 = some (.getfield 78, 131, 7, 26, 0, 0) := rfl
theorem i_131_131 : ins 131 131 = some (.iload_n 1, 132, 1, 0, 0, 0) := rfl
theorem i_131_132 : ins 131 132 = some (.iaload, 133, 0, 0, 0, 0) := rfl
theorem i_131_133 : ins 131 133 = some (.iload_n 2, 134, 2, 0, 0, 0) := rfl
theorem i_131_134 : ins 131 134 = some (.isub, 135, 0, 0, 0, 0) := rfl
theorem i_131_135 : ins 131 135 = some (.aload_n 0, 136, 0, 0, 0, 0) := rfl
theorem i_131_136 : ins 131 136 = some (.getfield 7, 139, 7, 1, 0, 0) := rfl
theorem i_131_139 : ins 131 139 = some (.iadd, 140, 0, 0, 0, 0) := rfl
theorem i_131_140 : ins 131 140 = some (.iconst 1, 141, 0, 0, 0, 1) := rfl
theorem i_131_141 : ins 131 141 = some (.isub, 142, 0, 0, 0, 0) := rfl
theorem i_131_142 : ins 131 142 = some (.aload_n 0, 143, 0, 0, 0, 0) := rfl
theorem i_131_143 : ins 131 143 = some (.getfield 7, 146, 7, 1, 0, 0) := rfl
theorem i_131_146 : ins 131 146 = some (.idiv, 147, 0, 0, 0, 0) := rfl
theorem i_131_147 : ins 131 147 = some (.iload_n 2, 148, 2, 0, 0, 0) := rfl
theorem i_131_148 : ins 131 148 = some (.aload_n 0, 149, 0, 0, 0, 0) := rfl
theorem i_131_149 : ins 131 149 = some (.getfield 13, 152, 7, 2, 0, 0) := rfl
theorem i_131_152 : ins 131 152 = some (.iadd, 153, 0, 0, 0, 0) := rfl
theorem i_131_153 : ins 131 153 = some (.iconst 1, 154, 0, 0, 0, 1) := rfl
theorem i_131_154 : ins 131 154 = some (.isub, 155, 0, 0, 0, 0) := rfl
theorem i_131_155 : ins 131 155 = some (.aload_n 0, 156, 0, 0, 0, 0) := rfl
theorem i_131_156 : ins 131 156 = some (.getfield 13, 159, 7, 2, 0, 0) := rfl
theorem i_131_159 : ins 131 159 = some (.idiv, 160, 0, 0, 0, 0) := rfl
theorem i_131_160 : ins 131 160 = some (.invokevirtual 233, 163, 121, 0, 3, 0) := rfl
theorem i_131_163 : ins 131 163 = some (.invokevirtual 233, 166, 121, 0, 3, 0) := rfl
theorem i_131_166 : ins 131 166 = some (.istore_n 3, 167, 3, 0, 0, 0) := rfl
theorem S131_87 {Q : Ou → Prop} {M : Mem} {κ : Kp} (hκ : Rd κ) {x i n al po : Nat} (hx : x < 6) (hn : n ≤ 10) (hc : M 151 x = nI n) (hal : M 134 1 = nI al) (hpo : M 134 2 = nI po) {O : Op} (hO : ∀ f, f < 6 → ∀ j, j < n → M (152 + f) (10 * x + j) = O f j) (hi : i ≤ n) {op : Nat} (b_op : op ≤ 100000)
    (o1 : ¬ (((10 * x) + i) < ((10 * x) + n)) → ¬ (nI al) = 0)
    (o2 : ¬ (((10 * x) + i) < ((10 * x) + n)) → ¬ (nI po) = 0)
    (k1 : ((10 * x) + i) < ((10 * x) + n) → RT 131 (87, [.ref 134, .int (nI x), .int (nI (op + (if (isP (O 0 i)) = true then 1 else 0))), .int (nI (((10 * x) + i) + 1)), UU], [], M, κ) Q)
    (k2 : ¬ (((10 * x) + i) < ((10 * x) + n)) → RT 131 (167, [.ref 134, .int (nI x), UU, .int (mx 1 (mx (((((nI n) - (nI op)) + (nI al)) - 1) / (nI al)) (((nI (op + po)) - 1) / (nI po)))), UU], [], M, κ) Q)
    : RT 131 (87, [.ref 134, .int (nI x), .int (nI op), .int (nI ((10 * x) + i)), UU], [], M, κ) Q := by
  refine w_load i_131_87 rfl rfl ?_
  refine w_push i_131_88 rfl ?_
  refine w_load i_131_90 rfl rfl ?_
  refine w_bin (w := (nI (10 * x))) i_131_91 rfl (nI_mul 10 x) ?_
  refine w_load i_131_92 rfl rfl ?_
  refine w_getR 151 i_131_93 hκ (⟨rfl, by decide⟩ : isOb 134 7) rfl rfl ?_
  refine w_load i_131_96 rfl rfl ?_
  refine w_ialdN (e := x) (v := (nI n)) i_131_97 hκ (⟨rfl, rfl, by decide⟩ : isAr 151 6) (by omega) (by decide) (hc) ?_
  refine w_bin (w := (nI ((10 * x) + n))) i_131_98 rfl (nI_add (10 * x) n) ?_
  refine w_if2n (((10 * x) + i) < ((10 * x) + n)) i_131_99 (cN_ge (a := ((10 * x) + i)) (b := ((10 * x) + n)) (by omega) (by omega)) ?_ ?_
  · intro h1
    refine w_load i_131_102 rfl rfl ?_
    refine w_load i_131_103 rfl rfl ?_
    refine w_load i_131_104 rfl rfl ?_
    refine w_callV (i := _) i_131_105 ⟨by decide, by decide, by decide, rfl⟩ hκ (⟨rfl, by decide⟩ : isOb 134 7) (av := [.int (nI ((10 * x) + i))]) (rest := [.int (nI op)]) rfl rfl (Nat.le_of_ble_eq_true rfl) (v := some (.int (bI (isP (O 0 i))))) (c116 hκ (by omega) (hO 0 (by decide) i (by omega))) ?_
    have K2 : RT 131 (116, [.ref 134, .int (nI x), .int (nI op), .int (nI ((10 * x) + i)), UU], [.int (nI (if (isP (O 0 i)) = true then 1 else 0)), .int (nI op)], M, κ) Q := by
      refine w_bin (w := (nI (op + (if (isP (O 0 i)) = true then 1 else 0)))) i_131_116 rfl (nI_add op (if (isP (O 0 i)) = true then 1 else 0)) ?_
      refine w_store (l1 := [.ref 134, .int (nI x), .int (nI (op + (if (isP (O 0 i)) = true then 1 else 0))), .int (nI ((10 * x) + i)), UU]) i_131_117 rfl (Nat.le_of_ble_eq_true rfl) rfl ?_
      refine w_iincN (n := ((10 * x) + i)) (l1 := [.ref 134, .int (nI x), .int (nI (op + (if (isP (O 0 i)) = true then 1 else 0))), .int (nI (((10 * x) + i) + 1)), UU]) 1 i_131_118 rfl rfl ?_
      refine w_goto i_131_121 ?_
      exact (k1 h1)
    refine w_if0n ((isP (O 0 i)) = true) i_131_108 cB_eq ?_ ?_
    · intro h3
      refine w_push i_131_111 rfl ?_
      refine w_goto i_131_112 ?_
      exact (by first | exact (K2) | (have K9 := K2; simp only [↓if_pos h3] at K9 ⊢; exact (K9)))
    · intro h4
      refine w_push i_131_115 rfl ?_
      exact (by first | exact (K2) | (have K9 := K2; simp only [↓if_neg h4] at K9 ⊢; exact (K9)))
  · intro h5
    refine w_load i_131_124 rfl rfl ?_
    refine w_push i_131_125 rfl ?_
    refine w_load i_131_126 rfl rfl ?_
    refine w_load i_131_127 rfl rfl ?_
    refine w_getR 151 i_131_128 hκ (⟨rfl, by decide⟩ : isOb 134 7) rfl rfl ?_
    refine w_load i_131_131 rfl rfl ?_
    refine w_ialdN (e := x) (v := (nI n)) i_131_132 hκ (⟨rfl, rfl, by decide⟩ : isAr 151 6) (by omega) (by decide) (hc) ?_
    refine w_load i_131_133 rfl rfl ?_
    refine w_bin (w := ((nI n) - (nI op))) i_131_134 rfl rfl ?_
    refine w_load i_131_135 rfl rfl ?_
    refine w_getI (v := (nI al)) i_131_136 hκ (⟨rfl, by decide⟩ : isOb 134 7) rfl (hal) ?_
    refine w_bin (w := (((nI n) - (nI op)) + (nI al))) i_131_139 rfl rfl ?_
    refine w_push i_131_140 rfl ?_
    refine w_bin (w := ((((nI n) - (nI op)) + (nI al)) - 1)) i_131_141 rfl rfl ?_
    refine w_load i_131_142 rfl rfl ?_
    refine w_getI (v := (nI al)) i_131_143 hκ (⟨rfl, by decide⟩ : isOb 134 7) rfl (hal) ?_
    refine w_div (w := (((((nI n) - (nI op)) + (nI al)) - 1) / (nI al))) i_131_146 rfl (o1 h5) rfl ?_
    refine w_load i_131_147 rfl rfl ?_
    refine w_load i_131_148 rfl rfl ?_
    refine w_getI (v := (nI po)) i_131_149 hκ (⟨rfl, by decide⟩ : isOb 134 7) rfl (hpo) ?_
    refine w_bin (w := (nI (op + po))) i_131_152 rfl (nI_add op po) ?_
    refine w_push i_131_153 rfl ?_
    refine w_bin (w := ((nI (op + po)) - 1)) i_131_154 rfl rfl ?_
    refine w_load i_131_155 rfl rfl ?_
    refine w_getI (v := (nI po)) i_131_156 hκ (⟨rfl, by decide⟩ : isOb 134 7) rfl (hpo) ?_
    refine w_div (w := (((nI (op + po)) - 1) / (nI po))) i_131_159 rfl (o2 h5) rfl ?_
    refine w_callV (i := _) i_131_160 ⟨by decide, by decide, by decide, rfl⟩ hκ (⟨rfl, by decide⟩ : isOb 134 7) (av := [.int (((((nI n) - (nI op)) + (nI al)) - 1) / (nI al)), .int (((nI (op + po)) - 1) / (nI po))]) (rest := [.int 1, .ref 134]) rfl rfl (Nat.le_of_ble_eq_true rfl) (v := some (.int (mx (((((nI n) - (nI op)) + (nI al)) - 1) / (nI al)) (((nI (op + po)) - 1) / (nI po))))) (c121 hκ) ?_
    refine w_callV (i := _) i_131_163 ⟨by decide, by decide, by decide, rfl⟩ hκ (⟨rfl, by decide⟩ : isOb 134 7) (av := [.int 1, .int (mx (((((nI n) - (nI op)) + (nI al)) - 1) / (nI al)) (((nI (op + po)) - 1) / (nI po)))]) (rest := []) rfl rfl (Nat.le_of_ble_eq_true rfl) (v := some (.int (mx 1 (mx (((((nI n) - (nI op)) + (nI al)) - 1) / (nI al)) (((nI (op + po)) - 1) / (nI po)))))) (c121 hκ) ?_
    refine w_store (l1 := [.ref 134, .int (nI x), .int (nI op), .int (mx 1 (mx (((((nI n) - (nI op)) + (nI al)) - 1) / (nI al)) (((nI (op + po)) - 1) / (nI po)))), UU]) i_131_166 rfl (Nat.le_of_ble_eq_true rfl) rfl ?_
    exact w_weak (lle_s (lle_s (lle_u (lle_s (lle_s lle_n))))) (k2 h5)
theorem i_131_167 : ins 131 167 = some (.aload_n 0, 168, 0, 0, 0, 0) := rfl
theorem i_131_168 : ins 131 168 = some (.aload_n 0, 169, 0, 0, 0, 0) := rfl
theorem i_131_169 : ins 131 169 = some (.getfield 78, 172, 7, 26, 0, 0) := rfl
theorem i_131_172 : ins 131 172 = some (.iload_n 1, 173, 1, 0, 0, 0) := rfl
theorem i_131_173 : ins 131 173 = some (.iaload, 174, 0, 0, 0, 0) := rfl
theorem i_131_174 : ins 131 174 = some (.iload_n 3, 175, 3, 0, 0, 0) := rfl
theorem i_131_175 : ins 131 175 = some (.invokevirtual 268, 178, 129, 0, 3, 0) := rfl
theorem S131_167 {Q : Ou → Prop} {M : Mem} {κ : Kp} (hκ : Rd κ) {x n : Nat} (hx : x < 6) (hc : M 151 x = nI n) {ii : Nat} (b_ii : ii ≤ 100000)
    (k1 : RT 129 (0, entL 129 [.ref 134, .int (nI n), .int (nI ii)], [], M, κ) (fun o => ∃ v M1 κ1, o = (.inl v, M1, κ1) ∧ RT 131 (178, [.ref 134, .int (nI x), UU, .int (nI ii), UU], v.toList ++ [], M1, κ1) Q))
    : RT 131 (167, [.ref 134, .int (nI x), UU, .int (nI ii), UU], [], M, κ) Q := by
  refine w_load i_131_167 rfl rfl ?_
  refine w_load i_131_168 rfl rfl ?_
  refine w_getR 151 i_131_169 hκ (⟨rfl, by decide⟩ : isOb 134 7) rfl rfl ?_
  refine w_load i_131_172 rfl rfl ?_
  refine w_ialdN (e := x) (v := (nI n)) i_131_173 hκ (⟨rfl, rfl, by decide⟩ : isAr 151 6) (by omega) (by decide) (hc) ?_
  refine w_load i_131_174 rfl rfl ?_
  exact w_callVI (i := _) i_131_175 ⟨by decide, by decide, by decide, rfl⟩ hκ (⟨rfl, by decide⟩ : isOb 134 7) (av := [.int (nI n), .int (nI ii)]) (rest := []) rfl rfl (Nat.le_of_ble_eq_true rfl) (k1)
theorem i_131_178 : ins 131 178 = some (.ifCond .eq 9, 181, 187, 0, 0, 0) := rfl
theorem i_131_181 : ins 131 181 = some (.iinc 3 1, 184, 3, 0, 0, 1) := rfl
theorem i_131_184 : ins 131 184 = some (.goto (-17), 187, 167, 0, 0, 0) := rfl
theorem i_131_187 : ins 131 187 = some (.aload_n 0, 188, 0, 0, 0, 0) := rfl
theorem i_131_188 : ins 131 188 = some (.getfield 111, 191, 7, 37, 0, 0) := rfl
theorem i_131_191 : ins 131 191 = some (.iload_n 1, 192, 1, 0, 0, 0) := rfl
theorem i_131_192 : ins 131 192 = some (.iload_n 3, 193, 3, 0, 0, 0) := rfl
theorem i_131_193 : ins 131 193 = some (.iastore, 194, 0, 0, 0, 0) := rfl
theorem S131_178 {Q : Ou → Prop} {M : Mem} {κ : Kp} (hκ : Rd κ) {x : Nat} (hx : x < 6) {ii : Nat} {b : Bool} (b_ii : ii ≤ 100000)
    (k1 : b = true → RT 131 (167, [.ref 134, .int (nI x), UU, .int (nI (ii + 1)), UU], [], M, κ) Q)
    (k2 : ¬ (b = true) → RT 131 (194, [.ref 134, .int (nI x), UU, .int (nI ii), UU], [], (stM M 162 x (nI ii)), κ) Q)
    : RT 131 (178, [.ref 134, .int (nI x), UU, .int (nI ii), UU], [.int (bI b)], M, κ) Q := by
  refine w_if0n (b = true) i_131_178 cB_eq ?_ ?_
  · intro h1
    refine w_iincN (n := ii) (l1 := [.ref 134, .int (nI x), UU, .int (nI (ii + 1)), UU]) 1 i_131_181 rfl rfl ?_
    refine w_goto i_131_184 ?_
    exact (k1 h1)
  · intro h2
    refine w_load i_131_187 rfl rfl ?_
    refine w_getR 162 i_131_188 hκ (⟨rfl, by decide⟩ : isOb 134 7) rfl rfl ?_
    refine w_load i_131_191 rfl rfl ?_
    refine w_load i_131_192 rfl rfl ?_
    refine w_iastN (e := x) i_131_193 hκ (⟨rfl, rfl, by decide⟩ : isAr 162 6) (by omega) (by decide) ?_
    exact (k2 h2)
theorem i_131_194 : ins 131 194 = some (.iload_n 3, 195, 3, 0, 0, 0) := rfl
theorem i_131_195 : ins 131 195 = some (.aload_n 0, 196, 0, 0, 0, 0) := rfl
theorem i_131_196 : ins 131 196 = some (.getfield 108, 199, 7, 36, 0, 0) := rfl
theorem i_131_199 : ins 131 199 = some (.iload_n 1, 200, 1, 0, 0, 0) := rfl
theorem i_131_200 : ins 131 200 = some (.iaload, 201, 0, 0, 0, 0) := rfl
theorem i_131_201 : ins 131 201 = some (.if_icmp .gt 18, 204, 219, 0, 0, 0) := rfl
theorem i_131_204 : ins 131 204 = some (.aload_n 0, 205, 0, 0, 0, 0) := rfl
theorem i_131_205 : ins 131 205 = some (.iload_n 1, 206, 1, 0, 0, 0) := rfl
theorem i_131_206 : ins 131 206 = some (.iload_n 3, 207, 3, 0, 0, 0) := rfl
theorem i_131_207 : ins 131 207 = some (.invokevirtual 271, 210, 136, 0, 3, 0) := rfl
theorem i_131_210 : ins 131 210 = some (.ifCond .ne 9, 213, 219, 0, 0, 0) := rfl
theorem i_131_213 : ins 131 213 = some (.iinc 3 1, 216, 3, 0, 0, 1) := rfl
theorem i_131_216 : ins 131 216 = some (.goto (-22), 219, 194, 0, 0, 0) := rfl
theorem i_131_219 : ins 131 219 = some (.iload_n 3, 220, 3, 0, 0, 0) := rfl
theorem i_131_220 : ins 131 220 = some (.aload_n 0, 221, 0, 0, 0, 0) := rfl
theorem i_131_221 : ins 131 221 = some (.getfield 108, 224, 7, 36, 0, 0) := rfl
theorem i_131_224 : ins 131 224 = some (.iload_n 1, 225, 1, 0, 0, 0) := rfl
theorem i_131_225 : ins 131 225 = some (.iaload, 226, 0, 0, 0, 0) := rfl
theorem i_131_226 : ins 131 226 = some (.if_icmp .le 4, 229, 230, 0, 0, 0) := rfl
theorem i_131_229 : ins 131 229 = some (.return_, 230, 0, 0, 0, 0) := rfl
theorem i_131_230 : ins 131 230 = some (.aload_n 0, 231, 0, 0, 0, 0) := rfl
theorem i_131_231 : ins 131 231 = some (.getfield 114, 234, 7, 38, 0, 0) := rfl
theorem i_131_234 : ins 131 234 = some (.iload_n 1, 235, 1, 0, 0, 0) := rfl
theorem i_131_235 : ins 131 235 = some (.iload_n 3, 236, 3, 0, 0, 0) := rfl
theorem i_131_236 : ins 131 236 = some (.iastore, 237, 0, 0, 0, 0) := rfl
theorem i_131_237 : ins 131 237 = some (.iconst 0, 238, 0, 0, 0, 0) := rfl
theorem i_131_238 : ins 131 238 = some (.istore 4, 240, 4, 0, 0, 0) := rfl
theorem S131_194 {Q : Ou → Prop} {M : Mem} {κ : Kp} (hκ : Rd κ) {x len : Nat} (hx : x < 6) (hlen : M 161 x = nI len) (hl80 : len ≤ 1000) {ii : Nat} (b_ii : ii ≤ 100000)
    (k1 : len < ii → len < ii → Q (.inl none, M, κ))
    (k2 : len < ii → ¬ (len < ii) → RT 131 (240, [.ref 134, .int (nI x), UU, .int (nI ii), .int (nI 0)], [], (stM M 163 x (nI ii)), κ) Q)
    (k3 : ¬ (len < ii) → RT 136 (0, entL 136 [.ref 134, .int (nI x), .int (nI ii)], [], M, κ) (fun o => ∃ v M1 κ1, o = (.inl v, M1, κ1) ∧ RT 131 (210, [.ref 134, .int (nI x), UU, .int (nI ii), UU], v.toList ++ [], M1, κ1) Q))
    : RT 131 (194, [.ref 134, .int (nI x), UU, .int (nI ii), UU], [], M, κ) Q := by
  refine w_load i_131_194 rfl rfl ?_
  refine w_load i_131_195 rfl rfl ?_
  refine w_getR 161 i_131_196 hκ (⟨rfl, by decide⟩ : isOb 134 7) rfl rfl ?_
  refine w_load i_131_199 rfl rfl ?_
  refine w_ialdN (e := x) (v := (nI len)) i_131_200 hκ (⟨rfl, rfl, by decide⟩ : isAr 161 6) (by omega) (by decide) (hlen) ?_
  refine w_if2 (len < ii) i_131_201 (cN_gt (a := ii) (b := len) (by omega) (by omega)) ?_ ?_
  · intro h1
    refine w_load i_131_219 rfl rfl ?_
    refine w_load i_131_220 rfl rfl ?_
    refine w_getR 161 i_131_221 hκ (⟨rfl, by decide⟩ : isOb 134 7) rfl rfl ?_
    refine w_load i_131_224 rfl rfl ?_
    refine w_ialdN (e := x) (v := (nI len)) i_131_225 hκ (⟨rfl, rfl, by decide⟩ : isAr 161 6) (by omega) (by decide) (hlen) ?_
    refine w_if2n (len < ii) i_131_226 (cN_le (a := ii) (b := len) (by omega) (by omega)) ?_ ?_
    · intro h2
      exact w_vret i_131_229 rfl (k1 h1 h2)
    · intro h3
      refine w_load i_131_230 rfl rfl ?_
      refine w_getR 163 i_131_231 hκ (⟨rfl, by decide⟩ : isOb 134 7) rfl rfl ?_
      refine w_load i_131_234 rfl rfl ?_
      refine w_load i_131_235 rfl rfl ?_
      refine w_iastN (e := x) i_131_236 hκ (⟨rfl, rfl, by decide⟩ : isAr 163 6) (by omega) (by decide) ?_
      refine w_push i_131_237 rfl ?_
      refine w_store (l1 := [.ref 134, .int (nI x), UU, .int (nI ii), .int 0]) i_131_238 rfl (Nat.le_of_ble_eq_true rfl) rfl ?_
      exact (k2 h1 h3)
  · intro h4
    refine w_load i_131_204 rfl rfl ?_
    refine w_load i_131_205 rfl rfl ?_
    refine w_load i_131_206 rfl rfl ?_
    exact w_callVI (i := _) i_131_207 ⟨by decide, by decide, by decide, rfl⟩ hκ (⟨rfl, by decide⟩ : isOb 134 7) (av := [.int (nI x), .int (nI ii)]) (rest := []) rfl rfl (Nat.le_of_ble_eq_true rfl) (k3 h4)
theorem S131_210 {Q : Ou → Prop} {M : Mem} {κ : Kp} (hκ : Rd κ) {x len : Nat} (hx : x < 6) (hlen : M 161 x = nI len) (hl80 : len ≤ 1000) {ii : Nat} {b : Bool} (b_ii : ii ≤ 100000)
    (k1 : b = true → len < ii → Q (.inl none, M, κ))
    (k2 : b = true → ¬ (len < ii) → RT 131 (240, [.ref 134, .int (nI x), UU, .int (nI ii), .int (nI 0)], [], (stM M 163 x (nI ii)), κ) Q)
    (k3 : ¬ (b = true) → RT 131 (194, [.ref 134, .int (nI x), UU, .int (nI (ii + 1)), UU], [], M, κ) Q)
    : RT 131 (210, [.ref 134, .int (nI x), UU, .int (nI ii), UU], [.int (bI b)], M, κ) Q := by
  refine w_if0 (b = true) i_131_210 cB_ne ?_ ?_
  · intro h1
    refine w_load i_131_219 rfl rfl ?_
    refine w_load i_131_220 rfl rfl ?_
    refine w_getR 161 i_131_221 hκ (⟨rfl, by decide⟩ : isOb 134 7) rfl rfl ?_
    refine w_load i_131_224 rfl rfl ?_
    refine w_ialdN (e := x) (v := (nI len)) i_131_225 hκ (⟨rfl, rfl, by decide⟩ : isAr 161 6) (by omega) (by decide) (hlen) ?_
    refine w_if2n (len < ii) i_131_226 (cN_le (a := ii) (b := len) (by omega) (by omega)) ?_ ?_
    · intro h2
      exact w_vret i_131_229 rfl (k1 h1 h2)
    · intro h3
      refine w_load i_131_230 rfl rfl ?_
      refine w_getR 163 i_131_231 hκ (⟨rfl, by decide⟩ : isOb 134 7) rfl rfl ?_
      refine w_load i_131_234 rfl rfl ?_
      refine w_load i_131_235 rfl rfl ?_
      refine w_iastN (e := x) i_131_236 hκ (⟨rfl, rfl, by decide⟩ : isAr 163 6) (by omega) (by decide) ?_
      refine w_push i_131_237 rfl ?_
      refine w_store (l1 := [.ref 134, .int (nI x), UU, .int (nI ii), .int 0]) i_131_238 rfl (Nat.le_of_ble_eq_true rfl) rfl ?_
      exact (k2 h1 h3)
  · intro h4
    refine w_iincN (n := ii) (l1 := [.ref 134, .int (nI x), UU, .int (nI (ii + 1)), UU]) 1 i_131_213 rfl rfl ?_
    refine w_goto i_131_216 ?_
    exact (k3 h4)
theorem i_131_240 : ins 131 240 = some (.iload 4, 242, 4, 0, 0, 0) := rfl
theorem i_131_242 : ins 131 242 = some (.aload_n 0, 243, 0, 0, 0, 0) := rfl
theorem i_131_243 : ins 131 243 = some (.getfield 78, 246, 7, 26, 0, 0) := rfl
theorem i_131_246 : ins 131 246 = some (.iload_n 1, 247, 1, 0, 0, 0) := rfl
theorem i_131_247 : ins 131 247 = some (.iaload, 248, 0, 0, 0, 0) := rfl
theorem i_131_248 : ins 131 248 = some (.if_icmp .ge 55, 251, 303, 0, 0, 0) := rfl
theorem i_131_251 : ins 131 251 = some (.aload_n 0, 252, 0, 0, 0, 0) := rfl
theorem i_131_252 : ins 131 252 = some (.getfield 105, 255, 7, 35, 0, 0) := rfl
theorem i_131_255 : ins 131 255 = some (.bipush 10, 257, 0, 0, 0, 10) := rfl
theorem i_131_257 : ins 131 257 = some (.iload_n 1, 258, 1, 0, 0, 0) := rfl
theorem i_131_258 : ins 131 258 = some (.imul, 259, 0, 0, 0, 0) := rfl
theorem i_131_259 : ins 131 259 = some (.iload 4, 261, 4, 0, 0, 0) := rfl
theorem i_131_261 : ins 131 261 = some (.iadd, 262, 0, 0, 0, 0) := rfl
theorem i_131_262 : ins 131 262 = some (.aload_n 0, 263, 0, 0, 0, 0) := rfl
theorem i_131_263 : ins 131 263 = some (.getfield 135, 266, 7, 45, 0, 0) := rfl
theorem i_131_266 : ins 131 266 = some (.iload 4, 268, 4, 0, 0, 0) := rfl
theorem i_131_268 : ins 131 268 = some (.iaload, 269, 0, 0, 0, 0) := rfl
theorem i_131_269 : ins 131 269 = some (.iastore, 270, 0, 0, 0, 0) := rfl
theorem i_131_270 : ins 131 270 = some (.aload_n 0, 271, 0, 0, 0, 0) := rfl
theorem i_131_271 : ins 131 271 = some (.getfield 117, 274, 7, 39, 0, 0) := rfl
theorem i_131_274 : ins 131 274 = some (.iload_n 1, 275, 1, 0, 0, 0) := rfl
theorem i_131_275 : ins 131 275 = some (.aload_n 0, 276, 0, 0, 0, 0) := rfl
theorem i_131_276 : ins 131 276 = some (.aload_n 0, 277, 0, 0, 0, 0) := rfl
theorem i_131_277 : ins 131 277 = some (.getfield 117, 280, 7, 39, 0, 0) := rfl
theorem i_131_280 : ins 131 280 = some (.iload_n 1, 281, 1, 0, 0, 0) := rfl
theorem i_131_281 : ins 131 281 = some (.iaload, 282, 0, 0, 0, 0) := rfl
theorem i_131_282 : ins 131 282 = some (.aload_n 0, 283, 0, 0, 0, 0) := rfl
theorem i_131_283 : ins 131 283 = some (.getfield 135, 286, 7, 45, 0, 0) := rfl
theorem i_131_286 : ins 131 286 = some (.iload 4, 288, 4, 0, 0, 0) := rfl
theorem i_131_288 : ins 131 288 = some (.iaload, 289, 0, 0, 0, 0) := rfl
theorem i_131_289 : ins 131 289 = some (.iload_n 3, 290, 3, 0, 0, 0) := rfl
theorem i_131_290 : ins 131 290 = some (.idiv, 291, 0, 0, 0, 0) := rfl
theorem i_131_291 : ins 131 291 = some (.iconst 1, 292, 0, 0, 0, 1) := rfl
theorem i_131_292 : ins 131 292 = some (.iadd, 293, 0, 0, 0, 0) := rfl
theorem i_131_293 : ins 131 293 = some (.invokevirtual 233, 296, 121, 0, 3, 0) := rfl
theorem i_131_296 : ins 131 296 = some (.iastore, 297, 0, 0, 0, 0) := rfl
theorem i_131_297 : ins 131 297 = some (.iinc 4 1, 300, 4, 0, 0, 1) := rfl
theorem i_131_300 : ins 131 300 = some (.goto (-60), 303, 240, 0, 0, 0) := rfl
theorem i_131_303 : ins 131 303 = some (.return_, 304, 0, 0, 0, 0) := rfl
theorem S131_240 {Q : Ou → Prop} {M : Mem} {κ : Kp} (hκ : Rd κ) {x i n : Nat} (hx : x < 6) (hn : n ≤ 10) (hc : M 151 x = nI n) (hi : i ≤ n) {ii : Nat} (b_ii : ii ≤ 100000)
    (o1 : i < n → ¬ (nI ii) = 0)
    (k1 : i < n → RT 131 (240, [.ref 134, .int (nI x), UU, .int (nI ii), .int (nI (i + 1))], [], (stM (stM M 160 ((10 * x) + i) (M 170 i)) 164 x (mx (M 164 x) (((M 170 i) / (nI ii)) + 1))), κ) Q)
    (k2 : ¬ (i < n) → Q (.inl none, M, κ))
    : RT 131 (240, [.ref 134, .int (nI x), UU, .int (nI ii), .int (nI i)], [], M, κ) Q := by
  refine w_load i_131_240 rfl rfl ?_
  refine w_load i_131_242 rfl rfl ?_
  refine w_getR 151 i_131_243 hκ (⟨rfl, by decide⟩ : isOb 134 7) rfl rfl ?_
  refine w_load i_131_246 rfl rfl ?_
  refine w_ialdN (e := x) (v := (nI n)) i_131_247 hκ (⟨rfl, rfl, by decide⟩ : isAr 151 6) (by omega) (by decide) (hc) ?_
  refine w_if2n (i < n) i_131_248 (cN_ge (a := i) (b := n) (by omega) (by omega)) ?_ ?_
  · intro h1
    refine w_load i_131_251 rfl rfl ?_
    refine w_getR 160 i_131_252 hκ (⟨rfl, by decide⟩ : isOb 134 7) rfl rfl ?_
    refine w_push i_131_255 rfl ?_
    refine w_load i_131_257 rfl rfl ?_
    refine w_bin (w := (nI (10 * x))) i_131_258 rfl (nI_mul 10 x) ?_
    refine w_load i_131_259 rfl rfl ?_
    refine w_bin (w := (nI ((10 * x) + i))) i_131_261 rfl (nI_add (10 * x) i) ?_
    refine w_load i_131_262 rfl rfl ?_
    refine w_getR 170 i_131_263 hκ (⟨rfl, by decide⟩ : isOb 134 7) rfl rfl ?_
    refine w_load i_131_266 rfl rfl ?_
    refine w_ialdN (e := i) (v := (M 170 i)) i_131_268 hκ (⟨rfl, rfl, by decide⟩ : isAr 170 10) (by omega) (by decide) (rfl) ?_
    refine w_iastN (e := ((10 * x) + i)) i_131_269 hκ (⟨rfl, rfl, by decide⟩ : isAr 160 60) (by omega) (by decide) ?_
    refine w_load i_131_270 rfl rfl ?_
    refine w_getR 164 i_131_271 hκ (⟨rfl, by decide⟩ : isOb 134 7) rfl rfl ?_
    refine w_load i_131_274 rfl rfl ?_
    refine w_load i_131_275 rfl rfl ?_
    refine w_load i_131_276 rfl rfl ?_
    refine w_getR 164 i_131_277 hκ (⟨rfl, by decide⟩ : isOb 134 7) rfl rfl ?_
    refine w_load i_131_280 rfl rfl ?_
    refine w_ialdN (e := x) (v := (M 164 x)) i_131_281 hκ (⟨rfl, rfl, by decide⟩ : isAr 164 6) (by omega) (by decide) ((stM_o (by decide)).trans (rfl)) ?_
    refine w_load i_131_282 rfl rfl ?_
    refine w_getR 170 i_131_283 hκ (⟨rfl, by decide⟩ : isOb 134 7) rfl rfl ?_
    refine w_load i_131_286 rfl rfl ?_
    refine w_ialdN (e := i) (v := (M 170 i)) i_131_288 hκ (⟨rfl, rfl, by decide⟩ : isAr 170 10) (by omega) (by decide) ((stM_o (by decide)).trans (rfl)) ?_
    refine w_load i_131_289 rfl rfl ?_
    refine w_div (w := ((M 170 i) / (nI ii))) i_131_290 rfl (o1 h1) rfl ?_
    refine w_push i_131_291 rfl ?_
    refine w_bin (w := (((M 170 i) / (nI ii)) + 1)) i_131_292 rfl rfl ?_
    refine w_callV (i := _) i_131_293 ⟨by decide, by decide, by decide, rfl⟩ hκ (⟨rfl, by decide⟩ : isOb 134 7) (av := [.int (M 164 x), .int (((M 170 i) / (nI ii)) + 1)]) (rest := [.int (nI x), .ref 164]) rfl rfl (Nat.le_of_ble_eq_true rfl) (v := some (.int (mx (M 164 x) (((M 170 i) / (nI ii)) + 1)))) (c121 hκ) ?_
    refine w_iastN (e := x) i_131_296 hκ (⟨rfl, rfl, by decide⟩ : isAr 164 6) (by omega) (by decide) ?_
    refine w_iincN (n := i) (l1 := [.ref 134, .int (nI x), UU, .int (nI ii), .int (nI (i + 1))]) 1 i_131_297 rfl rfl ?_
    refine w_goto i_131_300 ?_
    exact (k1 h1)
  · intro h2
    exact w_vret i_131_303 rfl (k2 h2)
variable {Q : Ou → Prop} {M M0 : Mem} {κ : Kp}
theorem nI_div {a b : Nat} (ha : a ≤ 1000000) (hb : b ≤ 1000000) : nI a / nI b = nI (a / b) := by
  apply Int32.toInt_inj.mp
  have hd := Nat.div_le_self a b
  rw [Int32.toInt_div_of_ne_right _ _ (nI_m1 (by omega)), nI_toInt (by omega), nI_toInt (by omega), nI_toInt (by omega), Int.tdiv_eq_ediv_of_nonneg (by omega)]
  rfl
theorem omx_some {a b : Option Int32} {w : Int32} (h : omx a b = some w) : a = some w ∨ b = some w := by
  match a, b, h with
  | none, b, h => exact .inr h
  | some a, none, h => exact .inl h
  | some a, some b, h =>
    cases h
    unfold mx
    split
    · exact .inr rfl
    · exact .inl rfl
theorem mt_first {O : Op} {n i j : Nat} {lp : Bool} (h : ¬ mtF O n lp i j = -1) (hij : ¬ i < j) : 1 ≤ (mtF O n lp i j).toInt := by
  unfold mtF at h ⊢
  rw [if_neg hij] at h ⊢
  by_cases c : O 2 i = O 2 j ∧ loo O (O 2 i) n = 0
  · rw [if_pos c] at h ⊢
    have hT : (if lp = true then 64 else 0) ≤ 64 := by split <;> decide
    generalize (if lp = true then 64 else 0) = T at h hT ⊢
    rw [srch_N] at h ⊢
    have hg := (srN_ge (mtf O n i j) (T + 1 - 1) 1).1
    by_cases h2 : srN (mtf O n i j) (T + 1 - 1) 1 < 1 + (T + 1 - 1)
    · rw [if_pos h2, nI_toInt (by omega)]
      omega
    · rw [if_neg h2] at h
      exact absurd rfl h
  · rw [if_neg c]
    decide
theorem Wt_char {ii : Nat} {L : Nat → Int32} {O : Op} {lp : Bool} {n i j : Nat} (hii : ii ≤ 1000) (hL : Lok L n) (hi : i < n) (hj : j < n) {w : Int32} (h : Wt (nI ii) 64 n lp O L i j = some w) : ∃ d q : Int, -8 ≤ d ∧ d ≤ 8 ∧ 0 ≤ q ∧ q ≤ 64 ∧ (i < j ∨ 1 ≤ q) ∧ w.toInt = d - (ii : Int) * q := by
  have ti : (nI ii).toInt = ii := nI_toInt (by omega)
  have hii' : 0 ≤ (nI ii).toInt ∧ (nI ii).toInt ≤ 1000 := by omega
  rcases omx_some h with h | h
  · cases q : uE L O lp i j with
    | none => rw [q] at h; cases h
    | some p =>
      obtain ⟨d, r⟩ := p
      rw [q] at h
      have h3 := uE_some hL hi hj q
      unfold wE at h
      simp only at h
      split at h
      · cases h
      · cases h
        have hq := q01 (i := i) (j := j)
        rw [← h3.2.1] at hq
        have := w_rng hii' h3.1 hq
        refine ⟨d.toInt, r.toInt, h3.1.1, h3.1.2, hq.1, hq.2, ?_, by rw [this.1, ti]⟩
        by_cases c : i < j
        · exact .inl c
        · right
          rw [h3.2.1, if_neg c]
          decide
  · cases q : mE O n lp i j with
    | none => rw [q] at h; cases h
    | some p =>
      obtain ⟨d, r⟩ := p
      rw [q] at h
      have h3 := mE_some q
      unfold wE at h
      simp only at h
      split at h
      · cases h
      · cases h
        have := w_rng hii' (d := d) (by omega) h3.2.1
        refine ⟨d.toInt, r.toInt, by omega, by omega, h3.2.1.1, h3.2.1.2, ?_, by rw [this.1, ti]⟩
        by_cases c : i < j
        · exact .inl c
        · right
          have h4 := h3.2.2.1
          rw [h4]
          exact mt_first (by rw [← h4]; exact h3.2.2.2) c
def WF7 (n : Nat) (lp : Bool) (O : Op) (L : Nat → Int32) : Nat → Nat → Nat → Option Int32 := fun ii => Wt (nI ii) 64 n lp O L
theorem Wfam_W {L : Nat → Int32} {O : Op} {lp : Bool} {n : Nat} (hn : n ≤ 10) (hL : Lok L n) : Wfam n (WF7 n lp O L) := by
  have hs : ∀ ii, ii ≤ 80 → Ws n (WF7 n lp O L ii) := fun ii hii i j hi hj w hw => by
    obtain ⟨d, q, h1, h2, h3, h4, h5, h6⟩ := Wt_char (by omega) hL hi hj hw
    have hm : (ii : Int) * q ≤ 80 * 64 := Int.mul_le_mul (by omega) h4 h3 (by omega)
    have hm0 : 0 ≤ (ii : Int) * q := Int.mul_nonneg (by omega) h3
    omega
  refine ⟨fun ii hii i j hi hj w hw => ?_, hs, ?_⟩
  · have ti : (nI ii).toInt = ii := nI_toInt (by omega)
    exact Wt_rng (by omega) hL hi hj w hw
  · refine A_psd (A_all (Qp := fun k => 8 * (10 - (k : Int))) (hs 80 (Nat.le_refl 80)) ⟨fun k hk => ?_, fun i j hi hj w hw => ?_⟩)
    · show 0 ≤ 8 * (10 - (k : Int)) ∧ 8 * (10 - (k : Int)) ≤ 100000
      omega
    · obtain ⟨d, q, h1, h2, h3, h4, h5, h6⟩ := Wt_char (by omega) hL hi hj hw
      show w.toInt + 8 * (10 - (j : Int)) ≤ 8 * (10 - (i : Int))
      have e : ((80 : Nat) : Int) * q = 80 * q := rfl
      rw [e] at h6
      rcases h5 with h5 | h5 <;> omega
theorem ceil4 {a b ii : Nat} (hb : 1 ≤ b ∧ b ≤ 4) : (a + b - 1) / b ≤ ii ↔ a ≤ ii * b := by
  obtain ⟨h1, h2⟩ := hb
  have : b = 1 ∨ b = 2 ∨ b = 3 ∨ b = 4 := by omega
  rcases this with rfl | rfl | rfl | rfl <;> omega
theorem mx_nI {a b : Nat} (ha : a ≤ 1000000) (hb : b ≤ 1000000) : mx (nI a) (nI b) = nI (max a b) := by
  apply Int32.toInt_inj.mp
  rw [mx_toInt, nI_toInt (by omega), nI_toInt (by omega), nI_toInt (by omega)]
  omega
section SC
variable {n x : Nat} {O : Op} {U : Bool → Nat} {L : Nat → Int32} {len : Nat}
/-- where the search for MII begins -/
def r0N (n : Nat) (Pt : Nat → Bool) (U : Bool → Nat) : Nat := max 1 (max ((cPt Pt false n + U false - 1) / U false) ((cPt Pt true n + U true - 1) / U true))
theorem srN_skip {f g : Nat → Bool} {r : Nat} (hf : ∀ c, c < r → f c = false) (hg : ∀ c, r ≤ c → f c = g c) : ∀ d k, k ≤ r → r ≤ k + d → srN f d k = srN g (k + d - r) r := fun d => by
  induction d with
  | zero =>
    intro k h1 h2
    have e : r = k := by omega
    subst e
    rw [show r + 0 - r = 0 by omega]
    rfl
  | succ d ih =>
    intro k h1 h2
    by_cases e : k = r
    · subst e
      rw [show k + (d + 1) - k = d + 1 by omega]
      have : ∀ d k', k ≤ k' → srN f d k' = srN g d k' := fun d => by
        induction d with
        | zero => exact fun _ _ => rfl
        | succ d ih2 =>
          intro k' hk'
          rw [srN, srN, hg k' hk', ih2 (k' + 1) (by omega)]
      exact this (d + 1) k (Nat.le_refl k)
    · rw [srN, if_neg (by rw [hf k (by omega)]; exact Bool.false_ne_true), ih (k + 1) (by omega) (by omega), show k + 1 + d - r = k + (d + 1) - r by omega]
theorem miN_r0 {Wf : Nat → Nat → Nat → Option Int32} {Pt : Nat → Bool} (hn : n ≤ 10) (hU : ∀ b, 1 ≤ U b ∧ U b ≤ 4) : 1 ≤ r0N n Pt U ∧ r0N n Pt U ≤ 20 ∧ miN n Wf Pt U = srN (fun ii => !posF n Wf ii) (81 - r0N n Pt U) (r0N n Pt U) := by
  have a1 := cPt_le (Pt := Pt) (b := false) n
  have a2 := cPt_le (Pt := Pt) (b := true) n
  have u1 := hU false
  have u2 := hU true
  have d1 := Nat.div_le_self (cPt Pt false n + U false - 1) (U false)
  have d2 := Nat.div_le_self (cPt Pt true n + U true - 1) (U true)
  have hr : 1 ≤ r0N n Pt U ∧ r0N n Pt U ≤ 20 := by
    unfold r0N
    omega
  have key : ∀ c, 1 ≤ c → (r0N n Pt U ≤ c ↔ (cPt Pt false n ≤ c * U false ∧ cPt Pt true n ≤ c * U true)) := fun c hc => by
    rw [← ceil4 u1, ← ceil4 u2]
    unfold r0N
    omega
  refine ⟨hr.1, hr.2, ?_⟩
  have h := srN_skip (f := fun c => decide (1 ≤ c) && clI n Wf Pt U c) (g := fun ii => !posF n Wf ii) (r := r0N n Pt U) (fun c hc => ?_) (fun c hc => ?_) 80 1 hr.1 (by omega)
  · have e : ∀ d k, 1 ≤ k → srN (fun c => decide (1 ≤ c) && clI n Wf Pt U c) d k = srN (clI n Wf Pt U) d k := fun d => by
      induction d with
      | zero => exact fun _ _ => rfl
      | succ d ih =>
        intro k hk
        rw [srN, srN, ih (k + 1) (by omega), decide_eq_true hk, Bool.true_and]
    rw [e 80 1 (Nat.le_refl 1)] at h
    exact h
  · by_cases c1 : 1 ≤ c
    · have : ¬ (cPt Pt false n ≤ c * U false ∧ cPt Pt true n ≤ c * U true) := fun z => absurd ((key c c1).mpr z) (by omega)
      show (decide (1 ≤ c) && clI n Wf Pt U c) = false
      unfold clI
      by_cases q : cPt Pt false n ≤ c * U false
      · rw [decide_eq_false (fun z => this ⟨q, z⟩), Bool.and_false, Bool.false_and, Bool.and_false]
      · rw [decide_eq_false q, Bool.false_and, Bool.false_and, Bool.and_false]
    · show (decide (1 ≤ c) && clI n Wf Pt U c) = false
      rw [decide_eq_false c1, Bool.false_and]
  · have h2 := (key c (by omega)).mp hc
    show (decide (1 ≤ c) && clI n Wf Pt U c) = !posF n Wf c
    unfold clI
    rw [decide_eq_true (by omega : 1 ≤ c), decide_eq_true h2.1, decide_eq_true h2.2]
    rfl
/-- the stages as the model counts them -/
theorem stg {c : Nat → Int32} {ii : Nat} (hi0 : 1 ≤ ii) (hii : ii ≤ 1000) : ∀ m, (∀ k, k < m → ∃ a, a ≤ 100000 ∧ c k = nI a) → 0 ≤ (gst c (nI ii) m).toInt ∧ (gst c (nI ii) m).toInt ≤ 100000 ∧ (fo (fun k m => mx m (c k / nI ii + 1)) 0 m).toInt = if m = 0 then 0 else 1 + (gst c (nI ii) m).toInt := fun m => by
  induction m with
  | zero =>
    intro _
    have e : (gst c (nI ii) 0).toInt = 0 := c0
    exact ⟨by omega, by omega, c0⟩
  | succ m ih =>
    intro h
    obtain ⟨h1, h2, h3⟩ := ih (fun k hk => h k (by omega))
    obtain ⟨a, ha, hc⟩ := h m (Nat.lt_succ_self m)
    have hd := Nat.div_le_self a ii
    have e1 : gst c (nI ii) (m + 1) = mx (gst c (nI ii) m) (dvF (c m) (nI ii)) := rfl
    have e2 : dvF (c m) (nI ii) = nI (a / ii) := by
      unfold dvF
      rw [if_pos (by rw [ltI, nI_toInt (by omega), c0]; omega), hc, nI_div (by omega) (by omega)]
    have e3 : c m / nI ii = nI (a / ii) := by rw [hc, nI_div (by omega) (by omega)]
    rw [fo_suc, e1, e2, e3, ← nI_succ, mx_toInt, mx_toInt, nI_toInt (by omega), nI_toInt (by omega), h3, if_neg (Nat.succ_ne_zero m)]
    generalize a / ii = z at hd ⊢
    by_cases q : m = 0
    · subst q
      have e : (gst c (nI ii) 0).toInt = 0 := c0
      rw [if_pos rfl, e]
      omega
    · rw [if_neg q]
      omega
/-- what the model's schedule leaves alone -/
def fr131 (x : Nat) (M0 M : Mem) : Prop := ∀ o y, ¬ (((o = 158 ∨ o = 159 ∨ o = 160) ∧ 10 * x ≤ y ∧ y < 10 * x + 10) ∨ ((161 ≤ o ∧ o ≤ 164) ∧ y = x) ∨ (165 ≤ o ∧ o ≤ 171)) → M o y = M0 o y
theorem f131 (hκ : Rd κ) {pl mu di lo e mi iis st sp : Int32} {c H cm : Nat → Int32} {t0 : Nat} (hx : x < 6) (hn : n ≤ 10) (hl80 : len ≤ 80) (hc : M0 151 x = nI n) (he : M0 147 x = e) (hal : M0 134 1 = nI (U false)) (hpo : M0 134 2 = nI (U true)) (hU : ∀ b, 1 ≤ U b ∧ U b ≤ 4) (hpl : M0 134 3 = pl) (hmu : M0 134 4 = mu) (hdi : M0 134 5 = di) (hlo : M0 134 6 = lo) (hO : ∀ f, f < 6 → ∀ j, j < n → M0 (152 + f) (10 * x + j) = O f j) (hk : Ook O n) (hL : Lok L n) (hl : ∀ k, k < n → latF pl mu di lo (O 0 k) = L k)
    (hH : ∀ k, k < n → H k = gb (Wt 0 0 n (decide (e = 3)) O L) H k (L k) n) (hR : Lr n (Wt 0 0 n (decide (e = 3)) O L) H (PO O) U c t0) (hfu : sch c n = n) (hlen : endF c L n = nI len) (hMR : MR n (WF7 n (decide (e = 3)) O L) (PO O) U L (decide (e = 3)) len mi iis st sp cm)
    (K : ∀ M, fr131 x M0 M → (∀ k, k < n → M 158 (10 * x + k) = H k) → (∀ k, k < n → M 159 (10 * x + k) = c k) → M 161 x = nI len → M 162 x = mi → M 163 x = iis → M 164 x = st → (∀ k, k < n → M 160 (10 * x + k) = cm k) → Q (.inl none, M, κ)) : RT 131 (0, entL 131 [.ref 134, .int (nI x)], [], M0, κ) Q := by
  have hw := Wfam_W (lp := decide (e = 3)) (O := O) hn hL
  have hmi := miN_le (Pt := PO O) (U := U) hw hn (fun b => (hU b).1)
  have h00 : 0 ≤ (0 : Int32).toInt ∧ (0 : Int32).toInt ≤ 1000 := by decide
  have hr0 : Wrg n (Wt 0 0 n (decide (e = 3)) O L) := fun i j hi hj w hw => Wt_rng h00 hL hi hj w hw
  refine S131_0 hκ hx (f126 hκ hx hn hc he hpl hmu hdi hlo hO hk hL hl (fun M1 f1 g1 => ⟨none, M1, κ, rfl, ?_⟩))
  have gA : ∀ M, (∀ o y, 165 ≤ o ∧ o ≤ 167 → M o y = M1 o y) → GM M n (decide (e = 3)) O L n 0 := fun M h => GM_eq g1 h
  have fO1 : ∀ f, f < 6 → ∀ j, j < n → M1 (152 + f) (10 * x + j) = O f j := fun f hf j hj => (f1 _ _ (by omega)).trans (hO f hf j hj)
  have hltW : ∀ i j, i < n → j < n → Wt 0 0 n (decide (e = 3)) O L i j ≠ none → i < j := fun i j hi hj hne => by
    cases q : Wt 0 0 n (decide (e = 3)) O L i j with
    | none => exact absurd q hne
    | some w =>
      by_cases c : i < j
      · exact c
      · exfalso
        rcases omx_some q with q | q
        · cases q2 : uE L O (decide (e = 3)) i j with
          | none => rw [q2] at q; cases q
          | some p =>
            obtain ⟨d, r⟩ := p
            rw [q2] at q
            have h3 := (uE_some hL hi hj q2).2.1
            rw [if_neg c] at h3
            subst h3
            have : wE 0 0 (some (d, nI 1)) = none := (if_pos (show (0 : Int32) < nI 1 by decide) : (if (0 : Int32) < nI 1 then none else some (d - 0 * nI 1)) = none)
            rw [this] at q
            cases q
        · cases q2 : mE O n (decide (e = 3)) i j with
          | none => rw [q2] at q; cases q
          | some p =>
            obtain ⟨d, r⟩ := p
            rw [q2] at q
            have h3 := mE_some q2
            have h4 := mt_first (by rw [← h3.2.2.1]; exact h3.2.2.2) c
            rw [← h3.2.2.1] at h4
            have : wE 0 0 (some (d, r)) = none := if_pos (by rw [ltI, c0]; omega)
            rw [this] at q
            cases q
  refine S131_5 hκ hx (f132 (W := Wt 0 0 n (decide (e = 3)) O L) (U := U) hκ hx hn ((f1 _ _ (by omega)).trans hc) ((f1 _ _ (by omega)).trans hal) ((f1 _ _ (by omega)).trans hpo) (fun b => by have := hU b; omega) ((f1 _ _ (by omega)).trans hpl) ((f1 _ _ (by omega)).trans hmu) ((f1 _ _ (by omega)).trans hdi) ((f1 _ _ (by omega)).trans hlo) fO1 hl (fun M h i j hij hj => c128 hκ hn hj hij hL (gA M h)) hr0 hltW hH hR hfu (fun M2 f2 d1 d2 d3 => ⟨none, M2, κ, rfl, ?_⟩))
  refine S131_10 hκ hx ?_
  have F2 : ∀ o y, ¬ (((o = 158 ∨ o = 159 ∨ o = 160) ∧ 10 * x ≤ y ∧ y < 10 * x + 10) ∨ ((161 ≤ o ∧ o ≤ 164) ∧ y = x) ∨ (165 ≤ o ∧ o ≤ 167)) → M2 o y = M0 o y := fun o y h => (f2 o y (by omega)).trans (f1 o y (by omega))
  have G2' : ∀ o y, 165 ≤ o ∧ o ≤ 167 → M2 o y = M1 o y := fun o y h => f2 o y (by omega)
  -- no cycles by rows yet
  refine loopI (n := 10) (fun i M => RT 131 (36, [.ref 134, .int (nI x), .int (nI ((10 * x) + i)), UU, UU], [], M, κ) Q) (fun i M => (∀ o y, ¬ ((o = 160 ∧ 10 * x ≤ y ∧ y < 10 * x + 10) ∨ ((162 ≤ o ∧ o ≤ 164) ∧ y = x)) → M o y = M2 o y) ∧ M 162 x = 0 ∧ M 163 x = 0 ∧ M 164 x = 0 ∧ ∀ k, k < i → M 160 (10 * x + k) = -1) (fun i M hi hI ih => ?_) (fun M hI => ?_) 0 _ (Nat.zero_le _) ⟨fun o y h => ?_, ?_, ?_, ?_, fun k hk => absurd hk (Nat.not_lt_zero k)⟩
  · obtain ⟨a1, a2, a3, a4, a5⟩ := hI
    refine S131_36 hκ hx hn ((a1 _ _ (by omega)).trans ((F2 _ _ (by omega)).trans hc)) ((a1 _ _ (by omega)).trans ((F2 _ _ (by omega)).trans he)) (by omega) (fun _ => ih _ ⟨fun o y h => (stM_n (by omega)).trans (a1 o y h), (stM_o (by decide)).trans a2, (stM_o (by decide)).trans a3, (stM_o (by decide)).trans a4, fun k hk => ?_⟩) (fun z => absurd (by omega) z) (fun z => absurd (by omega) z)
    by_cases e2 : k = i
    · rw [e2, stM_s]
    · rw [stM_j (by omega)]
      exact a5 k (by omega)
  · obtain ⟨a1, a2, a3, a4, a5⟩ := hI
    have F3 : ∀ o y, ¬ (((o = 158 ∨ o = 159 ∨ o = 160) ∧ 10 * x ≤ y ∧ y < 10 * x + 10) ∨ ((161 ≤ o ∧ o ≤ 164) ∧ y = x) ∨ (165 ≤ o ∧ o ≤ 167)) → M o y = M0 o y := fun o y h => (a1 o y (by omega)).trans (F2 o y h)
    have G3 : ∀ o y, 165 ≤ o ∧ o ≤ 167 → M o y = M1 o y := fun o y h => (a1 o y (by omega)).trans (G2' o y h)
    have b1 : ∀ k, k < n → M 158 (10 * x + k) = H k := fun k hk => (a1 _ _ (by omega)).trans (d1 k hk)
    have b2 : ∀ k, k < n → M 159 (10 * x + k) = c k := fun k hk => (a1 _ _ (by omega)).trans (d2 k hk)
    have b3 : M 161 x = nI len := (a1 _ _ (by omega)).trans (d3.trans hlen)
    refine S131_36 hκ hx hn ((F3 _ _ (by omega)).trans hc) ((F3 _ _ (by omega)).trans he) (Nat.le_refl _) (fun z => absurd z (Nat.lt_irrefl _)) (fun _ h => ?_) (fun _ h1 h2 => ?_)
    · unfold MR at hMR
      rw [if_neg (by
        rintro ⟨z1, z2⟩
        rcases h with h | h
        · omega
        · exact h (of_decide_eq_true z1))] at hMR
      obtain ⟨m1, m2, m3, m4, m5⟩ := hMR
      exact K M (fun o y h => F3 o y (by omega)) b1 b2 b3 (a2.trans m1.symm) (a3.trans m2.symm) (a4.trans m3.symm) (fun k hk => (a5 k (by omega)).trans (m5 k hk).symm)
    · unfold MR at hMR
      rw [if_pos ⟨decide_eq_true h1, by omega⟩] at hMR
      obtain ⟨m1, m2⟩ := hMR
      -- how many ports are asked for
      have hO3 : ∀ f, f < 6 → ∀ j, j < n → M (152 + f) (10 * x + j) = O f j := fun f hf j hj => (F3 _ _ (by omega)).trans (hO f hf j hj)
      have hc3 : M 151 x = nI n := (F3 _ _ (by omega)).trans hc
      have hal3 : M 134 1 = nI (U false) := (F3 _ _ (by omega)).trans hal
      have hpo3 : M 134 2 = nI (U true) := (F3 _ _ (by omega)).trans hpo
      have u1 := hU false
      have u2 := hU true
      have nz : ∀ b, 1 ≤ b → b ≤ 1000 → ¬ nI b = 0 := fun b hb hb2 z => by
        have := (nI_eq (b := 0) (by omega) (by omega)).mp z
        omega
      refine loopI (n := n) (fun i op => RT 131 (87, [.ref 134, .int (nI x), .int (nI op), .int (nI ((10 * x) + i)), UU], [], M, κ) Q) (fun i op => op = cPt (PO O) true i) (fun i op hi hI ih => ?_) (fun op hI => ?_) 0 0 (Nat.zero_le _) rfl
      · have hle := cPt_le (Pt := PO O) (b := true) i
        refine S131_87 hκ hx hn hc3 hal3 hpo3 hO3 (by omega) (by omega) (fun _ => nz _ u1.1 (by omega)) (fun _ => nz _ u2.1 (by omega)) (fun _ => ih _ ?_) (fun z => absurd (by omega) z)
        rw [hI, cPt]
      · have hle := cPt_le (Pt := PO O) (b := true) n
        have hle2 := cPt_le (Pt := PO O) (b := false) n
        have hsum := cPt_sum (Pt := PO O) n
        refine S131_87 hκ hx hn hc3 hal3 hpo3 hO3 (Nat.le_refl _) (by omega) (fun _ => nz _ u1.1 (by omega)) (fun _ => nz _ u2.1 (by omega)) (fun z => absurd z (Nat.lt_irrefl _)) (fun _ => ?_)
        obtain ⟨r1, r2, r3⟩ := miN_r0 (Wf := WF7 n (decide (e = 3)) O L) (Pt := PO O) hn hU
        have ers : mx 1 (mx (((((nI n) - (nI op)) + (nI (U false))) - 1) / (nI (U false))) (((nI (op + U true)) - 1) / (nI (U true)))) = nI (r0N n (PO O) U) := by
          rw [hI, nI_sub hle, nI_add, nI_sub1 (by omega), nI_sub1 (by omega), nI_div (by omega) (by omega), nI_div (by omega) (by omega), mx_nI (Nat.le_trans (Nat.div_le_self _ _) (by omega)) (Nat.le_trans (Nat.div_le_self _ _) (by omega))]
          have e1 : (1 : Int32) = nI 1 := rfl
          have q1 := Nat.div_le_self (n - cPt (PO O) true n + U false - 1) (U false)
          have q2 := Nat.div_le_self (cPt (PO O) true n + U true - 1) (U true)
          rw [e1, mx_nI (by omega) (by omega), show n - cPt (PO O) true n = cPt (PO O) false n by omega]
          rfl
        rw [ers]
        -- MII
        have Aas : ∀ M', (∀ o y, 165 ≤ o ∧ o ≤ 167 → M' o y = M1 o y) → ∀ ii, ii ≤ 100 → Aas7 κ n (WF7 n (decide (e = 3)) O L ii) ii M' := fun M' h ii hii M'' h2 i j hi hj => c127 hκ hn hi hj (by rw [nI_toInt (by omega)]; omega) hL (gA M'' (fun o y ho => (h2 o y ho).trans (h o y ho)))
        have main : ∀ d ii M', ii + d = 81 → r0N n (PO O) U ≤ ii → miN n (WF7 n (decide (e = 3)) O L) (PO O) U = srN (fun ii => !posF n (WF7 n (decide (e = 3)) O L) ii) d ii → (∀ o y, ¬ o = 168 → M' o y = M o y) → (∀ M', (∀ o y, ¬ o = 168 → M' o y = M o y) → RT 131 (194, [.ref 134, .int (nI x), UU, .int (nI (miN n (WF7 n (decide (e = 3)) O L) (PO O) U)), UU], [], (stM M' 162 x (nI (miN n (WF7 n (decide (e = 3)) O L) (PO O) U))), κ) Q) → RT 131 (167, [.ref 134, .int (nI x), UU, .int (nI ii), UU], [], M', κ) Q := by
          intro d
          induction d with
          | zero =>
            intro ii M' hd hri hm hf K2
            rw [srN] at hm
            omega
          | succ d ih =>
            intro ii M' hd hri hm hf K2
            refine S131_167 hκ hx ((hf _ _ (by omega)).trans hc3) (by omega) ?_
            refine f129 (W := WF7 n (decide (e = 3)) O L ii) hκ hn (by omega) (Aas M' (fun o y h => (hf o y (by omega)).trans (G3 o y h)) ii (by omega)) (fun M4 q1 q2 => ⟨_, M4, κ, rfl, ?_⟩)
            have hf4 : ∀ o y, ¬ o = 168 → M4 o y = M o y := fun o y h => (q1 o y h).trans (hf o y h)
            rw [srN] at hm
            refine S131_178 hκ hx (by omega) (fun h => ?_) (fun h => ?_)
            · have h' : posF n (WF7 n (decide (e = 3)) O L) ii = true := h
              rw [h', if_neg (show ¬ (!true) = true by decide)] at hm
              exact ih (ii + 1) M4 (by omega) (by omega) hm hf4 K2
            · have h' : posF n (WF7 n (decide (e = 3)) O L) ii = false := Bool.eq_false_iff.mpr h
              rw [h', if_pos (show (!false) = true from rfl)] at hm
              have := K2 M4 hf4
              rw [hm] at this
              exact this
        refine main (81 - r0N n (PO O) U) (r0N n (PO O) U) M (by omega) (Nat.le_refl _) r3 (fun _ _ _ => rfl) (fun M5 p1 => ?_)
        -- the tries
        have F5 : ∀ o y, ¬ (o = 168 ∨ (o = 162 ∧ y = x)) → stM M5 162 x (nI (miN n (WF7 n (decide (e = 3)) O L) (PO O) U)) o y = M o y := fun o y h => (stM_n (by omega)).trans (p1 o y (by omega))
        obtain ⟨mN, hmN⟩ : ∃ mN, mN = miN n (WF7 n (decide (e = 3)) O L) (PO O) U := ⟨_, rfl⟩
        rw [← hmN] at hmi F5 m1 ⊢
        have hM162 : stM M5 162 x (nI mN) 162 x = mi := stM_s.trans m1.symm
        generalize stM M5 162 x (nI mN) = M6 at F5 hM162 ⊢
        have iiD : iiN n (WF7 n (decide (e = 3)) O L) (PO O) U len = srN (gdI n (WF7 n (decide (e = 3)) O L) (PO O) U) (len + 1 - mN) mN := by rw [hmN]; rfl
        have last : ∀ M7, (∀ o y, ¬ ((168 ≤ o ∧ o ≤ 171) ∨ (o = 162 ∧ y = x)) → M7 o y = M o y) → M7 162 x = mi → len < iiN n (WF7 n (decide (e = 3)) O L) (PO O) U len → Q (.inl none, M7, κ) := by
          intro M7 z1 z2 z3
          rw [if_neg (by omega)] at m2
          obtain ⟨n1, n2, n3, n4⟩ := m2
          exact K M7 (fun o y h => (z1 o y (by omega)).trans (F3 o y (by omega))) (fun k hk => (z1 _ _ (by omega)).trans (b1 k hk)) (fun k hk => (z1 _ _ (by omega)).trans (b2 k hk)) ((z1 _ _ (by omega)).trans b3) z2 ((z1 _ _ (by omega)).trans (a3.trans n1.symm)) ((z1 _ _ (by omega)).trans (a4.trans n2.symm)) (fun k hk => (z1 _ _ (by omega)).trans ((a5 k (by omega)).trans (n4 k hk).symm))
        have tries : ∀ d ii M7, ii + d = (if mN ≤ len + 1 then len + 1 else mN) → mN ≤ ii → iiN n (WF7 n (decide (e = 3)) O L) (PO O) U len = srN (gdI n (WF7 n (decide (e = 3)) O L) (PO O) U) d ii → (∀ o y, ¬ ((168 ≤ o ∧ o ≤ 171) ∨ (o = 162 ∧ y = x)) → M7 o y = M o y) → M7 162 x = mi → RT 131 (194, [.ref 134, .int (nI x), UU, .int (nI ii), UU], [], M7, κ) Q := by
          intro d
          induction d with
          | zero =>
            intro ii M7 hd hii hm z1 z2
            rw [srN] at hm
            have hlt : len < ii := by
              split at hd <;> omega
            exact S131_194 hκ hx ((z1 _ _ (by omega)).trans b3) (by omega) (by split at hd <;> omega) (fun _ _ => last M7 z1 z2 (by omega)) (fun _ z => absurd hlt z) (fun z => absurd hlt z)
          | succ d ih =>
            intro ii M7 hd hii hm z1 z2
            have hle : ii ≤ len := by
              split at hd <;> omega
            have hi0 : 1 ≤ ii := by omega
            rw [srN] at hm
            have hd2 : ii + 1 + d = (if mN ≤ len + 1 then len + 1 else mN) := by omega
            have A7 := Aas M7 (fun o y h => (z1 o y (by omega)).trans (G3 o y h)) ii (by omega)
            refine S131_194 hκ hx ((z1 _ _ (by omega)).trans b3) (by omega) (by omega) (fun z => absurd z (by omega)) (fun z => absurd z (by omega)) (fun _ => ?_)
            refine f136 (W := WF7 n (decide (e = 3)) O L ii) (U := U) (O := O) (mo := posF n (WF7 n (decide (e = 3)) O L) ii) (F := fwZ n (eW (WF7 n (decide (e = 3)) O L ii)) n) hκ hx hn (by omega) hi0 ((z1 _ _ (by omega)).trans hc3) ((z1 _ _ (by omega)).trans hal3) ((z1 _ _ (by omega)).trans hpo3) (fun b => by have := hU b; omega) (fun f hf j hj => (z1 _ _ (by omega)).trans (hO3 f hf j hj)) A7 (hw.1 ii (by omega)) (fun Q' hh => f129 (W := WF7 n (decide (e = 3)) O L ii) hκ hn (by omega) A7 hh) (fun M8 y1 y2 => ⟨_, M8, κ, rfl, ?_⟩)
            have hz8 : ∀ o y, ¬ ((168 ≤ o ∧ o ≤ 171) ∨ (o = 162 ∧ y = x)) → M8 o y = M o y := fun o y h => (y1 o y (by omega)).trans (z1 o y h)
            have hz82 : M8 162 x = mi := (y1 _ _ (by omega)).trans z2
            have y2' : ∀ i, i < n → M8 170 i = cIF n (WF7 n (decide (e = 3)) O L) (PO O) U ii i := y2
            refine S131_210 (b := gdI n (WF7 n (decide (e = 3)) O L) (PO O) U ii) hκ hx ((hz8 _ _ (by omega)).trans b3) (by omega) (by omega) (fun _ z => absurd z (by omega)) (fun h _ => ?_) (fun h => ?_)
            · rw [if_pos h] at hm
              rw [hm, if_pos hle] at m2
              obtain ⟨n1, n2, n3, n4⟩ := m2
              -- the cycles are kept
              have hgo : goF n (prI n (WF7 n (decide (e = 3)) O L) ii) (cIF n (WF7 n (decide (e = 3)) O L) (PO O) U ii) (nI ii) = true := by
                unfold gdI at h
                rw [Bool.and_eq_true] at h
                exact h.2
              have hall : ∀ k, k < n → ∃ a, a ≤ 100000 ∧ cIF n (WF7 n (decide (e = 3)) O L) (PO O) U ii k = nI a := fun k hk => by
                unfold goF at hgo
                by_cases q : nx (prI n (WF7 n (decide (e = 3)) O L) ii) (cIF n (WF7 n (decide (e = 3)) O L) (PO O) U ii) n = none
                · have h1 := (nx_none n).mp q k hk
                  rcases (mits_rng (ii := ii) (P := prI n (WF7 n (decide (e = 3)) O L) ii) (Pt := PO O) (U := U) (hw.1 ii (by omega)) (by omega) (6 * n) (by omega)).1 k hk with h2 | ⟨a, h2, h3⟩
                  · exact absurd h2 h1
                  · exact ⟨a, by omega, h3⟩
                · rw [if_neg q] at hgo
                  cases hgo
              have hst := (stg (c := cIF n (WF7 n (decide (e = 3)) O L) (PO O) U ii) hi0 (by omega) n hall)
              refine loopI (n := n) (fun i M9 => RT 131 (240, [.ref 134, .int (nI x), UU, .int (nI ii), .int (nI i)], [], M9, κ) Q) (fun i M9 => (∀ o y, ¬ ((o = 160 ∧ 10 * x ≤ y ∧ y < 10 * x + 10) ∨ ((o = 163 ∨ o = 164) ∧ y = x)) → M9 o y = M8 o y) ∧ M9 163 x = nI ii ∧ M9 164 x = fo (fun k m => mx m (cIF n (WF7 n (decide (e = 3)) O L) (PO O) U ii k / nI ii + 1)) 0 i ∧ ∀ k, k < i → M9 160 (10 * x + k) = cIF n (WF7 n (decide (e = 3)) O L) (PO O) U ii k) (fun i M9 hi hI2 ih2 => ?_) (fun M9 hI2 => ?_) 0 _ (Nat.zero_le _) ⟨fun o y h => stM_n (by omega), stM_s, (stM_o (by decide)).trans ((hz8 _ _ (by omega)).trans a4), fun k hk => absurd hk (Nat.not_lt_zero k)⟩
              · obtain ⟨v1, v2, v3, v4⟩ := hI2
                refine S131_240 hκ hx hn ((v1 _ _ (by omega)).trans ((hz8 _ _ (by omega)).trans hc3)) (by omega) (by omega) (fun _ => nz ii hi0 (by omega)) (fun _ => ih2 _ ⟨fun o y h => ?_, ?_, ?_, fun k hk => ?_⟩) (fun z => absurd hi z)
                · rw [stM_n (by omega), stM_n (by omega)]
                  exact v1 o y h
                · rw [stM_o (by decide), stM_o (by decide)]
                  exact v2
                · rw [stM_s, v3, v1 170 i (by omega), y2' i hi]
                  rfl
                · rw [stM_o (by decide)]
                  by_cases e2 : k = i
                  · rw [e2, stM_s, v1 170 i (by omega), y2' i hi]
                  · rw [stM_j (by omega)]
                    exact v4 k (by omega)
              · obtain ⟨v1, v2, v3, v4⟩ := hI2
                refine S131_240 hκ hx hn ((v1 _ _ (by omega)).trans ((hz8 _ _ (by omega)).trans hc3)) (Nat.le_refl _) (by omega) (fun z => absurd z (Nat.lt_irrefl _)) (fun z => absurd z (Nat.lt_irrefl _)) (fun _ => ?_)
                refine K M9 (fun o y h => (v1 o y (by omega)).trans ((hz8 o y (by omega)).trans (F3 o y (by omega)))) (fun k hk => (v1 _ _ (by omega)).trans ((hz8 _ _ (by omega)).trans (b1 k hk))) (fun k hk => (v1 _ _ (by omega)).trans ((hz8 _ _ (by omega)).trans (b2 k hk))) ((v1 _ _ (by omega)).trans ((hz8 _ _ (by omega)).trans b3)) ((v1 _ _ (by omega)).trans hz82) (v2.trans n1.symm) ?_ (fun k hk => (v4 k hk).trans (n4 k hk).symm)
                rw [v3, n2, n1]
                apply Int32.toInt_inj.mp
                rw [hst.2.2, if_neg h2, l_add (by rw [t1]; omega) (by omega), t1]
            · rw [if_neg h] at hm
              exact ih (ii + 1) M8 hd2 (by omega) hm hz8 hz82
        exact tries (len + 1 - mN) mN M6 (by split <;> omega) (Nat.le_refl _) iiD (fun o y h => F5 o y (by omega)) hM162
  · rw [stM_n (by omega), stM_n (by omega), stM_n (by omega)]
  · rw [stM_o (by decide), stM_o (by decide), stM_s]
  · rw [stM_o (by decide), stM_s]
  · rw [stM_s]
end SC
end P_41_sched3
