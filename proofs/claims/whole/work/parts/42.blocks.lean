/-! BLOCKS: operations are added, copied and taken -/
section P_42_blocks
theorem i_1_0 : ins 1 0 = some (.aload_n 0, 1, 0, 0, 0, 0) := rfl
theorem i_1_1 : ins 1 1 = some (.iload_n 1, 2, 1, 0, 0, 0) := rfl
theorem i_1_2 : ins 1 2 = some (.putfield 9, 5, 0, 0, 0, 0) := rfl
theorem i_1_5 : ins 1 5 = some (.aload_n 0, 6, 0, 0, 0, 0) := rfl
theorem i_1_6 : ins 1 6 = some (.iload_n 2, 7, 2, 0, 0, 0) := rfl
theorem i_1_7 : ins 1 7 = some (.putfield 15, 10, 0, 1, 0, 0) := rfl
theorem i_1_10 : ins 1 10 = some (.aload_n 0, 11, 0, 0, 0, 0) := rfl
theorem i_1_11 : ins 1 11 = some (.iload_n 3, 12, 3, 0, 0, 0) := rfl
theorem i_1_12 : ins 1 12 = some (.putfield 18, 15, 0, 2, 0, 0) := rfl
theorem i_1_15 : ins 1 15 = some (.aload_n 0, 16, 0, 0, 0, 0) := rfl
theorem i_1_16 : ins 1 16 = some (.iload 4, 18, 4, 0, 0, 0) := rfl
theorem i_1_18 : ins 1 18 = some (.putfield 21, 21, 0, 3, 0, 0) := rfl
theorem i_1_21 : ins 1 21 = some (.aload_n 0, 22, 0, 0, 0, 0) := rfl
theorem i_1_22 : ins 1 22 = some (.iconst 0, 23, 0, 0, 0, 0) := rfl
theorem i_1_23 : ins 1 23 = some (.putfield 24, 26, 0, 4, 0, 0) := rfl
theorem i_1_26 : ins 1 26 = some (.aload_n 0, 27, 0, 0, 0, 0) := rfl
theorem i_1_27 : ins 1 27 = some (.iconst 0, 28, 0, 0, 0, 0) := rfl
theorem i_1_28 : ins 1 28 = some (.putfield 27, 31, 0, 5, 0, 0) := rfl
theorem i_1_31 : ins 1 31 = some (.return_, 32, 0, 0, 0, 0) := rfl
theorem S1_0 {Q : Ou → Prop} {M : Mem} {κ : Kp} (hκ : Rd κ) {b : Nat} (hb : isBl b) {e : Int32} {v : Int32} {t : Int32} {f : Int32}
    (k1 : Q (.inl none, (stM (stM (stM (stM (stM (stM M b 0 e) b 1 v) b 2 t) b 3 f) b 4 0) b 5 0), κ))
    : RT 1 (0, [.ref b, .int e, .int v, .int t, .int f], [], M, κ) Q := by
  refine w_load i_1_0 rfl rfl ?_
  refine w_load i_1_1 rfl rfl ?_
  refine w_putI i_1_2 hκ (bl_ob hb) rfl (fun c => absurd c (by decide)) ?_
  refine w_load i_1_5 rfl rfl ?_
  refine w_load i_1_6 rfl rfl ?_
  refine w_putI i_1_7 hκ (bl_ob hb) rfl (fun c => absurd c (by decide)) ?_
  refine w_load i_1_10 rfl rfl ?_
  refine w_load i_1_11 rfl rfl ?_
  refine w_putI i_1_12 hκ (bl_ob hb) rfl (fun c => absurd c (by decide)) ?_
  refine w_load i_1_15 rfl rfl ?_
  refine w_load i_1_16 rfl rfl ?_
  refine w_putI i_1_18 hκ (bl_ob hb) rfl (fun c => absurd c (by decide)) ?_
  refine w_load i_1_21 rfl rfl ?_
  refine w_push i_1_22 rfl ?_
  refine w_putI i_1_23 hκ (bl_ob hb) rfl (fun c => absurd c (by decide)) ?_
  refine w_load i_1_26 rfl rfl ?_
  refine w_push i_1_27 rfl ?_
  refine w_putI i_1_28 hκ (bl_ob hb) rfl (fun _ => rfl) ?_
  exact w_vret i_1_31 rfl (k1)
theorem i_2_0 : ins 2 0 = some (.aload_n 0, 1, 0, 0, 0, 0) := rfl
theorem i_2_1 : ins 2 1 = some (.getfield 24, 4, 0, 4, 0, 0) := rfl
theorem i_2_4 : ins 2 4 = some (.bipush 10, 6, 0, 0, 0, 10) := rfl
theorem i_2_6 : ins 2 6 = some (.if_icmp .ge 76, 9, 82, 0, 0, 0) := rfl
theorem i_2_9 : ins 2 9 = some (.aload_n 0, 10, 0, 0, 0, 0) := rfl
theorem i_2_10 : ins 2 10 = some (.getfield 31, 13, 0, 6, 0, 0) := rfl
theorem i_2_13 : ins 2 13 = some (.aload_n 0, 14, 0, 0, 0, 0) := rfl
theorem i_2_14 : ins 2 14 = some (.getfield 24, 17, 0, 4, 0, 0) := rfl
theorem i_2_17 : ins 2 17 = some (.iload_n 1, 18, 1, 0, 0, 0) := rfl
theorem i_2_18 : ins 2 18 = some (.iastore, 19, 0, 0, 0, 0) := rfl
theorem i_2_19 : ins 2 19 = some (.aload_n 0, 20, 0, 0, 0, 0) := rfl
theorem i_2_20 : ins 2 20 = some (.getfield 35, 23, 0, 7, 0, 0) := rfl
theorem i_2_23 : ins 2 23 = some (.aload_n 0, 24, 0, 0, 0, 0) := rfl
theorem i_2_24 : ins 2 24 = some (.getfield 24, 27, 0, 4, 0, 0) := rfl
theorem i_2_27 : ins 2 27 = some (.iload_n 2, 28, 2, 0, 0, 0) := rfl
theorem i_2_28 : ins 2 28 = some (.iastore, 29, 0, 0, 0, 0) := rfl
theorem i_2_29 : ins 2 29 = some (.aload_n 0, 30, 0, 0, 0, 0) := rfl
theorem i_2_30 : ins 2 30 = some (.getfield 38, 33, 0, 8, 0, 0) := rfl
theorem i_2_33 : ins 2 33 = some (.aload_n 0, 34, 0, 0, 0, 0) := rfl
theorem i_2_34 : ins 2 34 = some (.getfield 24, 37, 0, 4, 0, 0) := rfl
theorem i_2_37 : ins 2 37 = some (.iload_n 3, 38, 3, 0, 0, 0) := rfl
theorem i_2_38 : ins 2 38 = some (.iastore, 39, 0, 0, 0, 0) := rfl
theorem i_2_39 : ins 2 39 = some (.aload_n 0, 40, 0, 0, 0, 0) := rfl
theorem i_2_40 : ins 2 40 = some (.getfield 41, 43, 0, 9, 0, 0) := rfl
theorem i_2_43 : ins 2 43 = some (.aload_n 0, 44, 0, 0, 0, 0) := rfl
theorem i_2_44 : ins 2 44 = some (.getfield 24, 47, 0, 4, 0, 0) := rfl
theorem i_2_47 : ins 2 47 = some (.iload 4, 49, 4, 0, 0, 0) := rfl
theorem i_2_49 : ins 2 49 = some (.iastore, 50, 0, 0, 0, 0) := rfl
theorem i_2_50 : ins 2 50 = some (.aload_n 0, 51, 0, 0, 0, 0) := rfl
theorem i_2_51 : ins 2 51 = some (.getfield 44, 54, 0, 10, 0, 0) := rfl
theorem i_2_54 : ins 2 54 = some (.aload_n 0, 55, 0, 0, 0, 0) := rfl
theorem i_2_55 : ins 2 55 = some (.getfield 24, 58, 0, 4, 0, 0) := rfl
theorem i_2_58 : ins 2 58 = some (.iload 5, 60, 5, 0, 0, 0) := rfl
theorem i_2_60 : ins 2 60 = some (.iastore, 61, 0, 0, 0, 0) := rfl
theorem i_2_61 : ins 2 61 = some (.aload_n 0, 62, 0, 0, 0, 0) := rfl
theorem i_2_62 : ins 2 62 = some (.getfield 47, 65, 0, 11, 0, 0) := rfl
theorem i_2_65 : ins 2 65 = some (.aload_n 0, 66, 0, 0, 0, 0) := rfl
theorem i_2_66 : ins 2 66 = some (.getfield 24, 69, 0, 4, 0, 0) := rfl
theorem i_2_69 : ins 2 69 = some (.iload 6, 71, 6, 0, 0, 0) := rfl
theorem i_2_71 : ins 2 71 = some (.iastore, 72, 0, 0, 0, 0) := rfl
theorem i_2_72 : ins 2 72 = some (.aload_n 0, 73, 0, 0, 0, 0) := rfl
theorem i_2_73 : ins 2 73 = some (.dup, 74, 0, 0, 0, 0) := rfl
theorem i_2_74 : ins 2 74 = some (.getfield 24, 77, 0, 4, 0, 0) := rfl
theorem i_2_77 : ins 2 77 = some (.iconst 1, 78, 0, 0, 0, 1) := rfl
theorem i_2_78 : ins 2 78 = some (.iadd, 79, 0, 0, 0, 0) := rfl
theorem i_2_79 : ins 2 79 = some (.putfield 24, 82, 0, 4, 0, 0) := rfl
theorem i_2_82 : ins 2 82 = some (.return_, 83, 0, 0, 0, 0) := rfl
theorem S2_0 {Q : Ou → Prop} {M : Mem} {κ : Kp} (hκ : Rd κ) {b n : Nat} (hb : isBl b) (hn : n < 10) (hc : M b 4 = nI n) {c : Int32} {d : Int32} {a : Int32} {bb : Int32} {nn : Int32} {g : Int32}
    (k1 : Q (.inl none, (if n < 10 then (stM (stM (stM (stM (stM (stM (stM M (b + 1) n c) (b + 2) n d) (b + 3) n a) (b + 4) n bb) (b + 5) n nn) (b + 6) n g) b 4 (nI (n + 1))) else M), κ))
    : RT 2 (0, [.ref b, .int c, .int d, .int a, .int bb, .int nn, .int g], [], M, κ) Q := by
  refine w_load i_2_0 rfl rfl ?_
  refine w_getI (v := (nI n)) i_2_1 hκ (bl_ob hb) rfl (hc) ?_
  refine w_push i_2_4 rfl ?_
  have K1 : RT 2 (82, [.ref b, .int c, .int d, .int a, .int bb, .int nn, .int g], [], (if n < 10 then (stM (stM (stM (stM (stM (stM (stM M (b + 1) n c) (b + 2) n d) (b + 3) n a) (b + 4) n bb) (b + 5) n nn) (b + 6) n g) b 4 (nI (n + 1))) else M), κ) Q := by
    exact w_vret i_2_82 rfl (k1)
  refine w_if2n (n < 10) i_2_6 (cN_ge (a := n) (b := 10) (by omega) (by omega)) ?_ ?_
  · intro h2
    refine w_load i_2_9 rfl rfl ?_
    refine w_getR (b + 1) i_2_10 hκ (bl_ob hb) rfl rfl ?_
    refine w_load i_2_13 rfl rfl ?_
    refine w_getI (v := (nI n)) i_2_14 hκ (bl_ob hb) rfl (hc) ?_
    refine w_load i_2_17 rfl rfl ?_
    refine w_iastN (e := n) i_2_18 hκ (bl_ar hb 1 (by decide)) (by omega) (by decide) ?_
    refine w_load i_2_19 rfl rfl ?_
    refine w_getR (b + 2) i_2_20 hκ (bl_ob hb) rfl rfl ?_
    refine w_load i_2_23 rfl rfl ?_
    refine w_getI (v := (nI n)) i_2_24 hκ (bl_ob hb) rfl ((stM_o (by omega)).trans (hc)) ?_
    refine w_load i_2_27 rfl rfl ?_
    refine w_iastN (e := n) i_2_28 hκ (bl_ar hb 2 (by decide)) (by omega) (by decide) ?_
    refine w_load i_2_29 rfl rfl ?_
    refine w_getR (b + 3) i_2_30 hκ (bl_ob hb) rfl rfl ?_
    refine w_load i_2_33 rfl rfl ?_
    refine w_getI (v := (nI n)) i_2_34 hκ (bl_ob hb) rfl ((stM_o (by omega)).trans ((stM_o (by omega)).trans (hc))) ?_
    refine w_load i_2_37 rfl rfl ?_
    refine w_iastN (e := n) i_2_38 hκ (bl_ar hb 3 (by decide)) (by omega) (by decide) ?_
    refine w_load i_2_39 rfl rfl ?_
    refine w_getR (b + 4) i_2_40 hκ (bl_ob hb) rfl rfl ?_
    refine w_load i_2_43 rfl rfl ?_
    refine w_getI (v := (nI n)) i_2_44 hκ (bl_ob hb) rfl ((stM_o (by omega)).trans ((stM_o (by omega)).trans ((stM_o (by omega)).trans (hc)))) ?_
    refine w_load i_2_47 rfl rfl ?_
    refine w_iastN (e := n) i_2_49 hκ (bl_ar hb 4 (by decide)) (by omega) (by decide) ?_
    refine w_load i_2_50 rfl rfl ?_
    refine w_getR (b + 5) i_2_51 hκ (bl_ob hb) rfl rfl ?_
    refine w_load i_2_54 rfl rfl ?_
    refine w_getI (v := (nI n)) i_2_55 hκ (bl_ob hb) rfl ((stM_o (by omega)).trans ((stM_o (by omega)).trans ((stM_o (by omega)).trans ((stM_o (by omega)).trans (hc))))) ?_
    refine w_load i_2_58 rfl rfl ?_
    refine w_iastN (e := n) i_2_60 hκ (bl_ar hb 5 (by decide)) (by omega) (by decide) ?_
    refine w_load i_2_61 rfl rfl ?_
    refine w_getR (b + 6) i_2_62 hκ (bl_ob hb) rfl rfl ?_
    refine w_load i_2_65 rfl rfl ?_
    refine w_getI (v := (nI n)) i_2_66 hκ (bl_ob hb) rfl ((stM_o (by omega)).trans ((stM_o (by omega)).trans ((stM_o (by omega)).trans ((stM_o (by omega)).trans ((stM_o (by omega)).trans (hc)))))) ?_
    refine w_load i_2_69 rfl rfl ?_
    refine w_iastN (e := n) i_2_71 hκ (bl_ar hb 6 (by decide)) (by omega) (by decide) ?_
    refine w_load i_2_72 rfl rfl ?_
    refine w_dup i_2_73 rfl ?_
    refine w_getI (v := (nI n)) i_2_74 hκ (bl_ob hb) rfl ((stM_o (by omega)).trans ((stM_o (by omega)).trans ((stM_o (by omega)).trans ((stM_o (by omega)).trans ((stM_o (by omega)).trans ((stM_o (by omega)).trans (hc))))))) ?_
    refine w_push i_2_77 rfl ?_
    refine w_bin (w := (nI (n + 1))) i_2_78 rfl (nI_add n 1) ?_
    refine w_putI i_2_79 hκ (bl_ob hb) rfl (fun c => absurd c (by decide)) ?_
    exact (by first | exact (K1) | (have K9 := K1; simp only [↓if_pos h2] at K9 ⊢; exact (K9)))
  · intro h3
    exact (by first | exact (K1) | (have K9 := K1; simp only [↓if_neg h3] at K9 ⊢; exact (K9)))
theorem i_3_0 : ins 3 0 = some (.aload_n 0, 1, 0, 0, 0, 0) := rfl
theorem i_3_1 : ins 3 1 = some (.aload_n 1, 2, 1, 0, 0, 0) := rfl
theorem i_3_2 : ins 3 2 = some (.getfield 9, 5, 0, 0, 0, 0) := rfl
theorem i_3_5 : ins 3 5 = some (.aload_n 1, 6, 1, 0, 0, 0) := rfl
theorem i_3_6 : ins 3 6 = some (.getfield 15, 9, 0, 1, 0, 0) := rfl
theorem i_3_9 : ins 3 9 = some (.aload_n 1, 10, 1, 0, 0, 0) := rfl
theorem i_3_10 : ins 3 10 = some (.getfield 18, 13, 0, 2, 0, 0) := rfl
theorem i_3_13 : ins 3 13 = some (.aload_n 1, 14, 1, 0, 0, 0) := rfl
theorem i_3_14 : ins 3 14 = some (.getfield 21, 17, 0, 3, 0, 0) := rfl
theorem i_3_17 : ins 3 17 = some (.invokevirtual 50, 20, 1, 0, 5, 0) := rfl
theorem i_3_20 : ins 3 20 = some (.iconst 0, 21, 0, 0, 0, 0) := rfl
theorem i_3_21 : ins 3 21 = some (.istore_n 2, 22, 2, 0, 0, 0) := rfl
theorem i_3_70 : ins 3 70 = some (.iinc 2 1, 73, 2, 0, 0, 1) := rfl
theorem i_3_73 : ins 3 73 = some (.goto (-51), 76, 22, 0, 0, 0) := rfl
theorem S3_0 {Q : Ou → Prop} {M : Mem} {κ : Kp} (hκ : Rd κ) {b oo : Nat} (hb : isBl b) (ho : isBl oo) 
    (k1 : RT 1 (0, entL 1 [.ref b, .int (M oo 0), .int (M oo 1), .int (M oo 2), .int (M oo 3)], [], M, κ) (fun o => ∃ v M1 κ1, o = (.inl v, M1, κ1) ∧ RT 3 (20, [.ref b, .ref oo, UU], v.toList ++ [], M1, κ1) Q))
    : RT 3 (0, [.ref b, .ref oo, UU], [], M, κ) Q := by
  refine w_load i_3_0 rfl rfl ?_
  refine w_load i_3_1 rfl rfl ?_
  refine w_getI (v := (M oo 0)) i_3_2 hκ (bl_ob ho) rfl (rfl) ?_
  refine w_load i_3_5 rfl rfl ?_
  refine w_getI (v := (M oo 1)) i_3_6 hκ (bl_ob ho) rfl (rfl) ?_
  refine w_load i_3_9 rfl rfl ?_
  refine w_getI (v := (M oo 2)) i_3_10 hκ (bl_ob ho) rfl (rfl) ?_
  refine w_load i_3_13 rfl rfl ?_
  refine w_getI (v := (M oo 3)) i_3_14 hκ (bl_ob ho) rfl (rfl) ?_
  exact w_callVI (i := _) i_3_17 ⟨by decide, by decide, by decide, rfl⟩ hκ (bl_ob hb) (av := [.int (M oo 0), .int (M oo 1), .int (M oo 2), .int (M oo 3)]) (rest := []) rfl rfl (Nat.le_of_ble_eq_true rfl) (k1)
theorem S3_20 {Q : Ou → Prop} {M : Mem} {κ : Kp} (hκ : Rd κ) {b oo : Nat} (hb : isBl b) (ho : isBl oo) 
    (k1 : RT 3 (22, [.ref b, .ref oo, .int (nI 0)], [], M, κ) Q)
    : RT 3 (20, [.ref b, .ref oo, UU], [], M, κ) Q := by
  refine w_push i_3_20 rfl ?_
  refine w_store (l1 := [.ref b, .ref oo, .int 0]) i_3_21 rfl (Nat.le_of_ble_eq_true rfl) rfl ?_
  exact (k1)
theorem S3_70 {Q : Ou → Prop} {M : Mem} {κ : Kp} (hκ : Rd κ) {b oo : Nat} (hb : isBl b) (ho : isBl oo) {k : Nat} (b_k : k ≤ 100000)
    (k1 : RT 3 (22, [.ref b, .ref oo, .int (nI (k + 1))], [], M, κ) Q)
    : RT 3 (70, [.ref b, .ref oo, .int (nI k)], [], M, κ) Q := by
  refine w_iincN (n := k) (l1 := [.ref b, .ref oo, .int (nI (k + 1))]) 1 i_3_70 rfl rfl ?_
  refine w_goto i_3_73 ?_
  exact (k1)
theorem i_3_22 : ins 3 22 = some (.iload_n 2, 23, 2, 0, 0, 0) := rfl
theorem i_3_23 : ins 3 23 = some (.aload_n 1, 24, 1, 0, 0, 0) := rfl
theorem i_3_24 : ins 3 24 = some (.getfield 24, 27, 0, 4, 0, 0) := rfl
theorem i_3_27 : ins 3 27 = some (.if_icmp .ge 49, 30, 76, 0, 0, 0) := rfl
theorem i_3_30 : ins 3 30 = some (.aload_n 0, 31, 0, 0, 0, 0) := rfl
theorem i_3_31 : ins 3 31 = some (.aload_n 1, 32, 1, 0, 0, 0) := rfl
theorem i_3_32 : ins 3 32 = some (.getfield 31, 35, 0, 6, 0, 0) := rfl
theorem i_3_35 : ins 3 35 = some (.iload_n 2, 36, 2, 0, 0, 0) := rfl
theorem i_3_36 : ins 3 36 = some (.iaload, 37, 0, 0, 0, 0) := rfl
theorem i_3_37 : ins 3 37 = some (.aload_n 1, 38, 1, 0, 0, 0) := rfl
theorem i_3_38 : ins 3 38 = some (.getfield 35, 41, 0, 7, 0, 0) := rfl
theorem i_3_41 : ins 3 41 = some (.iload_n 2, 42, 2, 0, 0, 0) := rfl
theorem i_3_42 : ins 3 42 = some (.iaload, 43, 0, 0, 0, 0) := rfl
theorem i_3_43 : ins 3 43 = some (.aload_n 1, 44, 1, 0, 0, 0) := rfl
theorem i_3_44 : ins 3 44 = some (.getfield 38, 47, 0, 8, 0, 0) := rfl
theorem i_3_47 : ins 3 47 = some (.iload_n 2, 48, 2, 0, 0, 0) := rfl
theorem i_3_48 : ins 3 48 = some (.iaload, 49, 0, 0, 0, 0) := rfl
theorem i_3_49 : ins 3 49 = some (.aload_n 1, 50, 1, 0, 0, 0) := rfl
theorem i_3_50 : ins 3 50 = some (.getfield 41, 53, 0, 9, 0, 0) := rfl
theorem i_3_53 : ins 3 53 = some (.iload_n 2, 54, 2, 0, 0, 0) := rfl
theorem i_3_54 : ins 3 54 = some (.iaload, 55, 0, 0, 0, 0) := rfl
theorem i_3_55 : ins 3 55 = some (.aload_n 1, 56, 1, 0, 0, 0) := rfl
theorem i_3_56 : ins 3 56 = some (.getfield 44, 59, 0, 10, 0, 0) := rfl
theorem i_3_59 : ins 3 59 = some (.iload_n 2, 60, 2, 0, 0, 0) := rfl
theorem i_3_60 : ins 3 60 = some (.iaload, 61, 0, 0, 0, 0) := rfl
theorem i_3_61 : ins 3 61 = some (.aload_n 1, 62, 1, 0, 0, 0) := rfl
theorem i_3_62 : ins 3 62 = some (.getfield 47, 65, 0, 11, 0, 0) := rfl
theorem i_3_65 : ins 3 65 = some (.iload_n 2, 66, 2, 0, 0, 0) := rfl
theorem i_3_66 : ins 3 66 = some (.iaload, 67, 0, 0, 0, 0) := rfl
theorem i_3_67 : ins 3 67 = some (.invokevirtual 54, 70, 2, 0, 7, 0) := rfl
theorem i_3_76 : ins 3 76 = some (.return_, 77, 0, 0, 0, 0) := rfl
theorem S3_22 {Q : Ou → Prop} {M : Mem} {κ : Kp} (hκ : Rd κ) {b oo n2 k : Nat} (hb : isBl b) (ho : isBl oo) (hn2 : n2 ≤ 10) (hk : k ≤ n2) (hc2 : M oo 4 = nI n2) 
    (k1 : k < n2 → RT 2 (0, entL 2 [.ref b, .int (M (oo + 1) k), .int (M (oo + 2) k), .int (M (oo + 3) k), .int (M (oo + 4) k), .int (M (oo + 5) k), .int (M (oo + 6) k)], [], M, κ) (fun o => ∃ v M1 κ1, o = (.inl v, M1, κ1) ∧ RT 3 (70, [.ref b, .ref oo, .int (nI k)], v.toList ++ [], M1, κ1) Q))
    (k2 : ¬ (k < n2) → Q (.inl none, M, κ))
    : RT 3 (22, [.ref b, .ref oo, .int (nI k)], [], M, κ) Q := by
  refine w_load i_3_22 rfl rfl ?_
  refine w_load i_3_23 rfl rfl ?_
  refine w_getI (v := (nI n2)) i_3_24 hκ (bl_ob ho) rfl (hc2) ?_
  refine w_if2n (k < n2) i_3_27 (cN_ge (a := k) (b := n2) (by omega) (by omega)) ?_ ?_
  · intro h1
    refine w_load i_3_30 rfl rfl ?_
    refine w_load i_3_31 rfl rfl ?_
    refine w_getR (oo + 1) i_3_32 hκ (bl_ob ho) rfl rfl ?_
    refine w_load i_3_35 rfl rfl ?_
    refine w_ialdN (e := k) (v := (M (oo + 1) k)) i_3_36 hκ (bl_ar ho 1 (by decide)) (by omega) (by decide) (rfl) ?_
    refine w_load i_3_37 rfl rfl ?_
    refine w_getR (oo + 2) i_3_38 hκ (bl_ob ho) rfl rfl ?_
    refine w_load i_3_41 rfl rfl ?_
    refine w_ialdN (e := k) (v := (M (oo + 2) k)) i_3_42 hκ (bl_ar ho 2 (by decide)) (by omega) (by decide) (rfl) ?_
    refine w_load i_3_43 rfl rfl ?_
    refine w_getR (oo + 3) i_3_44 hκ (bl_ob ho) rfl rfl ?_
    refine w_load i_3_47 rfl rfl ?_
    refine w_ialdN (e := k) (v := (M (oo + 3) k)) i_3_48 hκ (bl_ar ho 3 (by decide)) (by omega) (by decide) (rfl) ?_
    refine w_load i_3_49 rfl rfl ?_
    refine w_getR (oo + 4) i_3_50 hκ (bl_ob ho) rfl rfl ?_
    refine w_load i_3_53 rfl rfl ?_
    refine w_ialdN (e := k) (v := (M (oo + 4) k)) i_3_54 hκ (bl_ar ho 4 (by decide)) (by omega) (by decide) (rfl) ?_
    refine w_load i_3_55 rfl rfl ?_
    refine w_getR (oo + 5) i_3_56 hκ (bl_ob ho) rfl rfl ?_
    refine w_load i_3_59 rfl rfl ?_
    refine w_ialdN (e := k) (v := (M (oo + 5) k)) i_3_60 hκ (bl_ar ho 5 (by decide)) (by omega) (by decide) (rfl) ?_
    refine w_load i_3_61 rfl rfl ?_
    refine w_getR (oo + 6) i_3_62 hκ (bl_ob ho) rfl rfl ?_
    refine w_load i_3_65 rfl rfl ?_
    refine w_ialdN (e := k) (v := (M (oo + 6) k)) i_3_66 hκ (bl_ar ho 6 (by decide)) (by omega) (by decide) (rfl) ?_
    exact w_callVI (i := _) i_3_67 ⟨by decide, by decide, by decide, rfl⟩ hκ (bl_ob hb) (av := [.int (M (oo + 1) k), .int (M (oo + 2) k), .int (M (oo + 3) k), .int (M (oo + 4) k), .int (M (oo + 5) k), .int (M (oo + 6) k)]) (rest := []) rfl rfl (Nat.le_of_ble_eq_true rfl) (k1 h1)
  · intro h2
    exact w_vret i_3_76 rfl (k2 h2)
theorem i_4_0 : ins 4 0 = some (.iconst 0, 1, 0, 0, 0, 0) := rfl
theorem i_4_1 : ins 4 1 = some (.istore_n 3, 2, 3, 0, 0, 0) := rfl
theorem i_4_45 : ins 4 45 = some (.iinc 3 1, 48, 3, 0, 0, 1) := rfl
theorem i_4_48 : ins 4 48 = some (.goto (-46), 51, 2, 0, 0, 0) := rfl
theorem S4_0 {Q : Ou → Prop} {M : Mem} {κ : Kp} (hκ : Rd κ) {b oo : Nat} (hb : isBl b) (ho : isBl oo) {g : Int32}
    (k1 : RT 4 (2, [.ref b, .ref oo, .int g, .int (nI 0)], [], M, κ) Q)
    : RT 4 (0, [.ref b, .ref oo, .int g, UU], [], M, κ) Q := by
  refine w_push i_4_0 rfl ?_
  refine w_store (l1 := [.ref b, .ref oo, .int g, .int 0]) i_4_1 rfl (Nat.le_of_ble_eq_true rfl) rfl ?_
  exact (k1)
theorem S4_45 {Q : Ou → Prop} {M : Mem} {κ : Kp} (hκ : Rd κ) {b oo : Nat} (hb : isBl b) (ho : isBl oo) {g : Int32} {k : Nat} (b_k : k ≤ 100000)
    (k1 : RT 4 (2, [.ref b, .ref oo, .int g, .int (nI (k + 1))], [], M, κ) Q)
    : RT 4 (45, [.ref b, .ref oo, .int g, .int (nI k)], [], M, κ) Q := by
  refine w_iincN (n := k) (l1 := [.ref b, .ref oo, .int g, .int (nI (k + 1))]) 1 i_4_45 rfl rfl ?_
  refine w_goto i_4_48 ?_
  exact (k1)
theorem i_4_2 : ins 4 2 = some (.iload_n 3, 3, 3, 0, 0, 0) := rfl
theorem i_4_3 : ins 4 3 = some (.aload_n 1, 4, 1, 0, 0, 0) := rfl
theorem i_4_4 : ins 4 4 = some (.getfield 24, 7, 0, 4, 0, 0) := rfl
theorem i_4_7 : ins 4 7 = some (.if_icmp .ge 44, 10, 51, 0, 0, 0) := rfl
theorem i_4_10 : ins 4 10 = some (.aload_n 0, 11, 0, 0, 0, 0) := rfl
theorem i_4_11 : ins 4 11 = some (.aload_n 1, 12, 1, 0, 0, 0) := rfl
theorem i_4_12 : ins 4 12 = some (.getfield 31, 15, 0, 6, 0, 0) := rfl
theorem i_4_15 : ins 4 15 = some (.iload_n 3, 16, 3, 0, 0, 0) := rfl
theorem i_4_16 : ins 4 16 = some (.iaload, 17, 0, 0, 0, 0) := rfl
theorem i_4_17 : ins 4 17 = some (.aload_n 1, 18, 1, 0, 0, 0) := rfl
theorem i_4_18 : ins 4 18 = some (.getfield 35, 21, 0, 7, 0, 0) := rfl
theorem i_4_21 : ins 4 21 = some (.iload_n 3, 22, 3, 0, 0, 0) := rfl
theorem i_4_22 : ins 4 22 = some (.iaload, 23, 0, 0, 0, 0) := rfl
theorem i_4_23 : ins 4 23 = some (.aload_n 1, 24, 1, 0, 0, 0) := rfl
theorem i_4_24 : ins 4 24 = some (.getfield 38, 27, 0, 8, 0, 0) := rfl
theorem i_4_27 : ins 4 27 = some (.iload_n 3, 28, 3, 0, 0, 0) := rfl
theorem i_4_28 : ins 4 28 = some (.iaload, 29, 0, 0, 0, 0) := rfl
theorem i_4_29 : ins 4 29 = some (.aload_n 1, 30, 1, 0, 0, 0) := rfl
theorem i_4_30 : ins 4 30 = some (.getfield 41, 33, 0, 9, 0, 0) := rfl
theorem i_4_33 : ins 4 33 = some (.iload_n 3, 34, 3, 0, 0, 0) := rfl
theorem i_4_34 : ins 4 34 = some (.iaload, 35, 0, 0, 0, 0) := rfl
theorem i_4_35 : ins 4 35 = some (.aload_n 1, 36, 1, 0, 0, 0) := rfl
theorem i_4_36 : ins 4 36 = some (.getfield 44, 39, 0, 10, 0, 0) := rfl
theorem i_4_39 : ins 4 39 = some (.iload_n 3, 40, 3, 0, 0, 0) := rfl
theorem i_4_40 : ins 4 40 = some (.iaload, 41, 0, 0, 0, 0) := rfl
theorem i_4_41 : ins 4 41 = some (.iload_n 2, 42, 2, 0, 0, 0) := rfl
theorem i_4_42 : ins 4 42 = some (.invokevirtual 54, 45, 2, 0, 7, 0) := rfl
theorem i_4_51 : ins 4 51 = some (.aload_n 1, 52, 1, 0, 0, 0) := rfl
theorem i_4_52 : ins 4 52 = some (.iconst 1, 53, 0, 0, 0, 1) := rfl
theorem i_4_53 : ins 4 53 = some (.putfield 27, 56, 0, 5, 0, 0) := rfl
theorem i_4_56 : ins 4 56 = some (.return_, 57, 0, 0, 0, 0) := rfl
theorem S4_2 {Q : Ou → Prop} {M : Mem} {κ : Kp} (hκ : Rd κ) {b oo n2 k : Nat} (hb : isBl b) (ho : isBl oo) (hn2 : n2 ≤ 10) (hk : k ≤ n2) (hc2 : M oo 4 = nI n2) {g : Int32}
    (k1 : k < n2 → RT 2 (0, entL 2 [.ref b, .int (M (oo + 1) k), .int (M (oo + 2) k), .int (M (oo + 3) k), .int (M (oo + 4) k), .int (M (oo + 5) k), .int g], [], M, κ) (fun o => ∃ v M1 κ1, o = (.inl v, M1, κ1) ∧ RT 4 (45, [.ref b, .ref oo, .int g, .int (nI k)], v.toList ++ [], M1, κ1) Q))
    (k2 : ¬ (k < n2) → Q (.inl none, (stM M oo 5 1), κ))
    : RT 4 (2, [.ref b, .ref oo, .int g, .int (nI k)], [], M, κ) Q := by
  refine w_load i_4_2 rfl rfl ?_
  refine w_load i_4_3 rfl rfl ?_
  refine w_getI (v := (nI n2)) i_4_4 hκ (bl_ob ho) rfl (hc2) ?_
  refine w_if2n (k < n2) i_4_7 (cN_ge (a := k) (b := n2) (by omega) (by omega)) ?_ ?_
  · intro h1
    refine w_load i_4_10 rfl rfl ?_
    refine w_load i_4_11 rfl rfl ?_
    refine w_getR (oo + 1) i_4_12 hκ (bl_ob ho) rfl rfl ?_
    refine w_load i_4_15 rfl rfl ?_
    refine w_ialdN (e := k) (v := (M (oo + 1) k)) i_4_16 hκ (bl_ar ho 1 (by decide)) (by omega) (by decide) (rfl) ?_
    refine w_load i_4_17 rfl rfl ?_
    refine w_getR (oo + 2) i_4_18 hκ (bl_ob ho) rfl rfl ?_
    refine w_load i_4_21 rfl rfl ?_
    refine w_ialdN (e := k) (v := (M (oo + 2) k)) i_4_22 hκ (bl_ar ho 2 (by decide)) (by omega) (by decide) (rfl) ?_
    refine w_load i_4_23 rfl rfl ?_
    refine w_getR (oo + 3) i_4_24 hκ (bl_ob ho) rfl rfl ?_
    refine w_load i_4_27 rfl rfl ?_
    refine w_ialdN (e := k) (v := (M (oo + 3) k)) i_4_28 hκ (bl_ar ho 3 (by decide)) (by omega) (by decide) (rfl) ?_
    refine w_load i_4_29 rfl rfl ?_
    refine w_getR (oo + 4) i_4_30 hκ (bl_ob ho) rfl rfl ?_
    refine w_load i_4_33 rfl rfl ?_
    refine w_ialdN (e := k) (v := (M (oo + 4) k)) i_4_34 hκ (bl_ar ho 4 (by decide)) (by omega) (by decide) (rfl) ?_
    refine w_load i_4_35 rfl rfl ?_
    refine w_getR (oo + 5) i_4_36 hκ (bl_ob ho) rfl rfl ?_
    refine w_load i_4_39 rfl rfl ?_
    refine w_ialdN (e := k) (v := (M (oo + 5) k)) i_4_40 hκ (bl_ar ho 5 (by decide)) (by omega) (by decide) (rfl) ?_
    refine w_load i_4_41 rfl rfl ?_
    exact w_callVI (i := _) i_4_42 ⟨by decide, by decide, by decide, rfl⟩ hκ (bl_ob hb) (av := [.int (M (oo + 1) k), .int (M (oo + 2) k), .int (M (oo + 3) k), .int (M (oo + 4) k), .int (M (oo + 5) k), .int g]) (rest := []) rfl rfl (Nat.le_of_ble_eq_true rfl) (k1 h1)
  · intro h2
    refine w_load i_4_51 rfl rfl ?_
    refine w_push i_4_52 rfl ?_
    refine w_putI i_4_53 hκ (bl_ob ho) rfl (fun _ => rfl) ?_
    exact w_vret i_4_56 rfl (k2 h2)
theorem i_5_0 : ins 5 0 = some (.aload_n 0, 1, 0, 0, 0, 0) := rfl
theorem i_5_1 : ins 5 1 = some (.iconst 1, 2, 0, 0, 0, 1) := rfl
theorem i_5_2 : ins 5 2 = some (.putfield 9, 5, 0, 0, 0, 0) := rfl
theorem i_5_5 : ins 5 5 = some (.aload_n 0, 6, 0, 0, 0, 0) := rfl
theorem i_5_6 : ins 5 6 = some (.iload_n 1, 7, 1, 0, 0, 0) := rfl
theorem i_5_7 : ins 5 7 = some (.putfield 18, 10, 0, 2, 0, 0) := rfl
theorem i_5_10 : ins 5 10 = some (.return_, 11, 0, 0, 0, 0) := rfl
theorem S5_0 {Q : Ou → Prop} {M : Mem} {κ : Kp} (hκ : Rd κ) {b : Nat} (hb : isBl b) {z : Int32}
    (k1 : Q (.inl none, (stM (stM M b 0 1) b 2 z), κ))
    : RT 5 (0, [.ref b, .int z], [], M, κ) Q := by
  refine w_load i_5_0 rfl rfl ?_
  refine w_push i_5_1 rfl ?_
  refine w_putI i_5_2 hκ (bl_ob hb) rfl (fun c => absurd c (by decide)) ?_
  refine w_load i_5_5 rfl rfl ?_
  refine w_load i_5_6 rfl rfl ?_
  refine w_putI i_5_7 hκ (bl_ob hb) rfl (fun c => absurd c (by decide)) ?_
  exact w_vret i_5_10 rfl (k1)
theorem i_7_0 : ins 7 0 = some (.iconst 0, 1, 0, 0, 0, 0) := rfl
theorem i_7_1 : ins 7 1 = some (.istore_n 1, 2, 1, 0, 0, 0) := rfl
theorem i_7_2 : ins 7 2 = some (.iload_n 1, 3, 1, 0, 0, 0) := rfl
theorem i_7_3 : ins 7 3 = some (.aload_n 0, 4, 0, 0, 0, 0) := rfl
theorem i_7_4 : ins 7 4 = some (.getfield 24, 7, 0, 4, 0, 0) := rfl
theorem i_7_7 : ins 7 7 = some (.if_icmp .ge 20, 10, 27, 0, 0, 0) := rfl
theorem i_7_10 : ins 7 10 = some (.aload_n 0, 11, 0, 0, 0, 0) := rfl
theorem i_7_11 : ins 7 11 = some (.getfield 47, 14, 0, 11, 0, 0) := rfl
theorem i_7_14 : ins 7 14 = some (.iload_n 1, 15, 1, 0, 0, 0) := rfl
theorem i_7_15 : ins 7 15 = some (.iaload, 16, 0, 0, 0, 0) := rfl
theorem i_7_16 : ins 7 16 = some (.ifCond .eq 5, 19, 21, 0, 0, 0) := rfl
theorem i_7_19 : ins 7 19 = some (.iconst 1, 20, 0, 0, 0, 1) := rfl
theorem i_7_20 : ins 7 20 = some (.ireturn, 21, 0, 0, 0, 0) := rfl
theorem i_7_21 : ins 7 21 = some (.iinc 1 1, 24, 1, 0, 0, 1) := rfl
theorem i_7_24 : ins 7 24 = some (.goto (-22), 27, 2, 0, 0, 0) := rfl
theorem i_7_27 : ins 7 27 = some (.iconst 0, 28, 0, 0, 0, 0) := rfl
theorem i_7_28 : ins 7 28 = some (.ireturn, 29, 0, 0, 0, 0) := rfl
theorem S7_0 {Q : Ou → Prop} {M : Mem} {κ : Kp} (hκ : Rd κ) {b n k : Nat} (hb : isBl b) (hn : n ≤ 10) (hk : k ≤ n) (hc : M b 4 = nI n) {O : Op} (hO : ∀ f, f < 6 → ∀ j, j < n → M (b + 1 + f) j = O f j) 
    (k1 : RT 7 (2, [.ref b, .int (nI 0)], [], M, κ) Q)
    : RT 7 (0, [.ref b, UU], [], M, κ) Q := by
  refine w_push i_7_0 rfl ?_
  refine w_store (l1 := [.ref b, .int 0]) i_7_1 rfl (Nat.le_of_ble_eq_true rfl) rfl ?_
  exact (k1)
theorem S7_2 {Q : Ou → Prop} {M : Mem} {κ : Kp} (hκ : Rd κ) {b n k : Nat} (hb : isBl b) (hn : n ≤ 10) (hk : k ≤ n) (hc : M b 4 = nI n) {O : Op} (hO : ∀ f, f < 6 → ∀ j, j < n → M (b + 1 + f) j = O f j) 
    (k1 : k < n → (O 5 k) = 0 → RT 7 (2, [.ref b, .int (nI (k + 1))], [], M, κ) Q)
    (k2 : k < n → ¬ ((O 5 k) = 0) → Q (.inl (some (.int 1)), M, κ))
    (k3 : ¬ (k < n) → Q (.inl (some (.int 0)), M, κ))
    : RT 7 (2, [.ref b, .int (nI k)], [], M, κ) Q := by
  refine w_load i_7_2 rfl rfl ?_
  refine w_load i_7_3 rfl rfl ?_
  refine w_getI (v := (nI n)) i_7_4 hκ (bl_ob hb) rfl (hc) ?_
  refine w_if2n (k < n) i_7_7 (cN_ge (a := k) (b := n) (by omega) (by omega)) ?_ ?_
  · intro h1
    refine w_load i_7_10 rfl rfl ?_
    refine w_getR (b + 6) i_7_11 hκ (bl_ob hb) rfl rfl ?_
    refine w_load i_7_14 rfl rfl ?_
    refine w_ialdN (e := k) (v := (O 5 k)) i_7_15 hκ (bl_ar hb 6 (by decide)) (by omega) (by decide) (hO 5 (by decide) k (by omega)) ?_
    refine w_if0 ((O 5 k) = 0) i_7_16 cI0_eq ?_ ?_
    · intro h2
      refine w_iincN (n := k) (l1 := [.ref b, .int (nI (k + 1))]) 1 i_7_21 rfl rfl ?_
      refine w_goto i_7_24 ?_
      exact (k1 h1 h2)
    · intro h3
      refine w_push i_7_19 rfl ?_
      exact w_iret i_7_20 (.inr ⟨rfl, rfl⟩) (k2 h1 h3)
  · intro h4
    refine w_push i_7_27 rfl ?_
    exact w_iret i_7_28 (.inr ⟨rfl, rfl⟩) (k3 h4)
theorem i_8_0 : ins 8 0 = some (.iconst 0, 1, 0, 0, 0, 0) := rfl
theorem i_8_1 : ins 8 1 = some (.istore_n 2, 2, 2, 0, 0, 0) := rfl
theorem i_8_2 : ins 8 2 = some (.iload_n 2, 3, 2, 0, 0, 0) := rfl
theorem i_8_3 : ins 8 3 = some (.aload_n 0, 4, 0, 0, 0, 0) := rfl
theorem i_8_4 : ins 8 4 = some (.getfield 24, 7, 0, 4, 0, 0) := rfl
theorem i_8_7 : ins 8 7 = some (.if_icmp .ge 20, 10, 27, 0, 0, 0) := rfl
theorem i_8_10 : ins 8 10 = some (.aload_n 0, 11, 0, 0, 0, 0) := rfl
theorem i_8_11 : ins 8 11 = some (.iload_n 2, 12, 2, 0, 0, 0) := rfl
theorem i_8_12 : ins 8 12 = some (.invokevirtual 58, 15, 9, 0, 2, 0) := rfl
theorem i_8_15 : ins 8 15 = some (.iload_n 1, 16, 1, 0, 0, 0) := rfl
theorem i_8_16 : ins 8 16 = some (.if_icmp .ne 5, 19, 21, 0, 0, 0) := rfl
theorem i_8_19 : ins 8 19 = some (.iconst 1, 20, 0, 0, 0, 1) := rfl
theorem i_8_20 : ins 8 20 = some (.ireturn, 21, 0, 0, 0, 0) := rfl
theorem i_8_21 : ins 8 21 = some (.iinc 2 1, 24, 2, 0, 0, 1) := rfl
theorem i_8_24 : ins 8 24 = some (.goto (-22), 27, 2, 0, 0, 0) := rfl
theorem i_8_27 : ins 8 27 = some (.iconst 0, 28, 0, 0, 0, 0) := rfl
theorem i_8_28 : ins 8 28 = some (.ireturn, 29, 0, 0, 0, 0) := rfl
theorem S8_0 {Q : Ou → Prop} {M : Mem} {κ : Kp} (hκ : Rd κ) {b n k : Nat} (hb : isBl b) (hn : n ≤ 10) (hk : k ≤ n) (hc : M b 4 = nI n) {O : Op} (hO : ∀ f, f < 6 → ∀ j, j < n → M (b + 1 + f) j = O f j) {v : Int32}
    (k1 : RT 8 (2, [.ref b, .int v, .int (nI 0)], [], M, κ) Q)
    : RT 8 (0, [.ref b, .int v, UU], [], M, κ) Q := by
  refine w_push i_8_0 rfl ?_
  refine w_store (l1 := [.ref b, .int v, .int 0]) i_8_1 rfl (Nat.le_of_ble_eq_true rfl) rfl ?_
  exact (k1)
theorem S8_2 {Q : Ou → Prop} {M : Mem} {κ : Kp} (hκ : Rd κ) {b n k : Nat} (hb : isBl b) (hn : n ≤ 10) (hk : k ≤ n) (hc : M b 4 = nI n) {O : Op} (hO : ∀ f, f < 6 → ∀ j, j < n → M (b + 1 + f) j = O f j) {v : Int32}
    (k1 : k < n → (wrF (O 0 k) (O 1 k)) = v → Q (.inl (some (.int 1)), M, κ))
    (k2 : k < n → ¬ ((wrF (O 0 k) (O 1 k)) = v) → RT 8 (2, [.ref b, .int v, .int (nI (k + 1))], [], M, κ) Q)
    (k3 : ¬ (k < n) → Q (.inl (some (.int 0)), M, κ))
    : RT 8 (2, [.ref b, .int v, .int (nI k)], [], M, κ) Q := by
  refine w_load i_8_2 rfl rfl ?_
  refine w_load i_8_3 rfl rfl ?_
  refine w_getI (v := (nI n)) i_8_4 hκ (bl_ob hb) rfl (hc) ?_
  refine w_if2n (k < n) i_8_7 (cN_ge (a := k) (b := n) (by omega) (by omega)) ?_ ?_
  · intro h1
    refine w_load i_8_10 rfl rfl ?_
    refine w_load i_8_11 rfl rfl ?_
    refine w_callV (i := _) i_8_12 ⟨by decide, by decide, by decide, rfl⟩ hκ (bl_ob hb) (av := [.int (nI k)]) (rest := []) rfl rfl (Nat.le_of_ble_eq_true rfl) (v := some (.int (wrF (O 0 k) (O 1 k)))) (c9 hκ hb (by omega) (hO 0 (by decide) k (by omega)) (hO 1 (by decide) k (by omega))) ?_
    refine w_load i_8_15 rfl rfl ?_
    refine w_if2n ((wrF (O 0 k) (O 1 k)) = v) i_8_16 cI_ne ?_ ?_
    · intro h2
      refine w_push i_8_19 rfl ?_
      exact w_iret i_8_20 (.inr ⟨rfl, rfl⟩) (k1 h1 h2)
    · intro h3
      refine w_iincN (n := k) (l1 := [.ref b, .int v, .int (nI (k + 1))]) 1 i_8_21 rfl rfl ?_
      refine w_goto i_8_24 ?_
      exact (k2 h1 h3)
  · intro h4
    refine w_push i_8_27 rfl ?_
    exact w_iret i_8_28 (.inr ⟨rfl, rfl⟩) (k3 h4)
theorem i_110_0 : ins 110 0 = some (.bipush 10, 2, 0, 0, 0, 10) := rfl
theorem i_110_2 : ins 110 2 = some (.iload_n 1, 3, 1, 0, 0, 0) := rfl
theorem i_110_3 : ins 110 3 = some (.imul, 4, 0, 0, 0, 0) := rfl
theorem i_110_4 : ins 110 4 = some (.aload_n 0, 5, 0, 0, 0, 0) := rfl
theorem i_110_5 : ins 110 5 = some (.getfield 78, 8, 7, 26, 0, 0) := rfl
theorem i_110_8 : ins 110 8 = some (.iload_n 1, 9, 1, 0, 0, 0) := rfl
theorem i_110_9 : ins 110 9 = some (.iaload, 10, 0, 0, 0, 0) := rfl
theorem i_110_10 : ins 110 10 = some (.iadd, 11, 0, 0, 0, 0) := rfl
theorem i_110_11 : ins 110 11 = some (.istore 8, 13, 8, 0, 0, 0) := rfl
theorem i_110_13 : ins 110 13 = some (.aload_n 0, 14, 0, 0, 0, 0) := rfl
theorem i_110_14 : ins 110 14 = some (.getfield 81, 17, 7, 27, 0, 0) := rfl
theorem i_110_17 : ins 110 17 = some (.iload 8, 19, 8, 0, 0, 0) := rfl
theorem i_110_19 : ins 110 19 = some (.iload_n 2, 20, 2, 0, 0, 0) := rfl
theorem i_110_20 : ins 110 20 = some (.iastore, 21, 0, 0, 0, 0) := rfl
theorem i_110_21 : ins 110 21 = some (.aload_n 0, 22, 0, 0, 0, 0) := rfl
theorem i_110_22 : ins 110 22 = some (.getfield 84, 25, 7, 28, 0, 0) := rfl
theorem i_110_25 : ins 110 25 = some (.iload 8, 27, 8, 0, 0, 0) := rfl
theorem i_110_27 : ins 110 27 = some (.iload_n 3, 28, 3, 0, 0, 0) := rfl
theorem i_110_28 : ins 110 28 = some (.iastore, 29, 0, 0, 0, 0) := rfl
theorem i_110_29 : ins 110 29 = some (.aload_n 0, 30, 0, 0, 0, 0) := rfl
theorem i_110_30 : ins 110 30 = some (.getfield 87, 33, 7, 29, 0, 0) := rfl
theorem i_110_33 : ins 110 33 = some (.iload 8, 35, 8, 0, 0, 0) := rfl
theorem i_110_35 : ins 110 35 = some (.iload 4, 37, 4, 0, 0, 0) := rfl
theorem i_110_37 : ins 110 37 = some (.iastore, 38, 0, 0, 0, 0) := rfl
theorem i_110_38 : ins 110 38 = some (.aload_n 0, 39, 0, 0, 0, 0) := rfl
theorem i_110_39 : ins 110 39 = some (.getfield 90, 42, 7, 30, 0, 0) := rfl
theorem i_110_42 : ins 110 42 = some (.iload 8, 44, 8, 0, 0, 0) := rfl
theorem i_110_44 : ins 110 44 = some (.iload 5, 46, 5, 0, 0, 0) := rfl
theorem i_110_46 : ins 110 46 = some (.iastore, 47, 0, 0, 0, 0) := rfl
theorem i_110_47 : ins 110 47 = some (.aload_n 0, 48, 0, 0, 0, 0) := rfl
theorem i_110_48 : ins 110 48 = some (.getfield 93, 51, 7, 31, 0, 0) := rfl
theorem i_110_51 : ins 110 51 = some (.iload 8, 53, 8, 0, 0, 0) := rfl
theorem i_110_53 : ins 110 53 = some (.iload 6, 55, 6, 0, 0, 0) := rfl
theorem i_110_55 : ins 110 55 = some (.iastore, 56, 0, 0, 0, 0) := rfl
theorem i_110_56 : ins 110 56 = some (.aload_n 0, 57, 0, 0, 0, 0) := rfl
theorem i_110_57 : ins 110 57 = some (.getfield 96, 60, 7, 32, 0, 0) := rfl
theorem i_110_60 : ins 110 60 = some (.iload 8, 62, 8, 0, 0, 0) := rfl
theorem i_110_62 : ins 110 62 = some (.iload 7, 64, 7, 0, 0, 0) := rfl
theorem i_110_64 : ins 110 64 = some (.iastore, 65, 0, 0, 0, 0) := rfl
theorem i_110_65 : ins 110 65 = some (.aload_n 0, 66, 0, 0, 0, 0) := rfl
theorem i_110_66 : ins 110 66 = some (.getfield 78, 69, 7, 26, 0, 0) := rfl
theorem i_110_69 : ins 110 69 = some (.iload_n 1, 70, 1, 0, 0, 0) := rfl
theorem i_110_70 : ins 110 70 = some (.dup2, 71, 0, 0, 0, 0) := rfl
theorem i_110_71 : ins 110 71 = some (.iaload, 72, 0, 0, 0, 0) := rfl
theorem i_110_72 : ins 110 72 = some (.iconst 1, 73, 0, 0, 0, 1) := rfl
theorem i_110_73 : ins 110 73 = some (.iadd, 74, 0, 0, 0, 0) := rfl
theorem i_110_74 : ins 110 74 = some (.iastore, 75, 0, 0, 0, 0) := rfl
theorem i_110_75 : ins 110 75 = some (.return_, 76, 0, 0, 0, 0) := rfl
theorem S110_0 {Q : Ou → Prop} {M : Mem} {κ : Kp} (hκ : Rd κ) {x n : Nat} (hx : x < 6) (hn : n < 10) (hc : M 151 x = nI n) {c : Int32} {d : Int32} {a : Int32} {bb : Int32} {nn : Int32} {g : Int32}
    (k1 : Q (.inl none, (stM (stM (stM (stM (stM (stM (stM M 152 ((10 * x) + n) c) 153 ((10 * x) + n) d) 154 ((10 * x) + n) a) 155 ((10 * x) + n) bb) 156 ((10 * x) + n) nn) 157 ((10 * x) + n) g) 151 x (nI (n + 1))), κ))
    : RT 110 (0, [.ref 134, .int (nI x), .int c, .int d, .int a, .int bb, .int nn, .int g, UU], [], M, κ) Q := by
  refine w_push i_110_0 rfl ?_
  refine w_load i_110_2 rfl rfl ?_
  refine w_bin (w := (nI (10 * x))) i_110_3 rfl (nI_mul 10 x) ?_
  refine w_load i_110_4 rfl rfl ?_
  refine w_getR 151 i_110_5 hκ (⟨rfl, by decide⟩ : isOb 134 7) rfl rfl ?_
  refine w_load i_110_8 rfl rfl ?_
  refine w_ialdN (e := x) (v := (nI n)) i_110_9 hκ (⟨rfl, rfl, by decide⟩ : isAr 151 6) (by omega) (by decide) (hc) ?_
  refine w_bin (w := (nI ((10 * x) + n))) i_110_10 rfl (nI_add (10 * x) n) ?_
  refine w_store (l1 := [.ref 134, .int (nI x), .int c, .int d, .int a, .int bb, .int nn, .int g, .int (nI ((10 * x) + n))]) i_110_11 rfl (Nat.le_of_ble_eq_true rfl) rfl ?_
  refine w_load i_110_13 rfl rfl ?_
  refine w_getR 152 i_110_14 hκ (⟨rfl, by decide⟩ : isOb 134 7) rfl rfl ?_
  refine w_load i_110_17 rfl rfl ?_
  refine w_load i_110_19 rfl rfl ?_
  refine w_iastN (e := ((10 * x) + n)) i_110_20 hκ (⟨rfl, rfl, by decide⟩ : isAr 152 60) (by omega) (by decide) ?_
  refine w_load i_110_21 rfl rfl ?_
  refine w_getR 153 i_110_22 hκ (⟨rfl, by decide⟩ : isOb 134 7) rfl rfl ?_
  refine w_load i_110_25 rfl rfl ?_
  refine w_load i_110_27 rfl rfl ?_
  refine w_iastN (e := ((10 * x) + n)) i_110_28 hκ (⟨rfl, rfl, by decide⟩ : isAr 153 60) (by omega) (by decide) ?_
  refine w_load i_110_29 rfl rfl ?_
  refine w_getR 154 i_110_30 hκ (⟨rfl, by decide⟩ : isOb 134 7) rfl rfl ?_
  refine w_load i_110_33 rfl rfl ?_
  refine w_load i_110_35 rfl rfl ?_
  refine w_iastN (e := ((10 * x) + n)) i_110_37 hκ (⟨rfl, rfl, by decide⟩ : isAr 154 60) (by omega) (by decide) ?_
  refine w_load i_110_38 rfl rfl ?_
  refine w_getR 155 i_110_39 hκ (⟨rfl, by decide⟩ : isOb 134 7) rfl rfl ?_
  refine w_load i_110_42 rfl rfl ?_
  refine w_load i_110_44 rfl rfl ?_
  refine w_iastN (e := ((10 * x) + n)) i_110_46 hκ (⟨rfl, rfl, by decide⟩ : isAr 155 60) (by omega) (by decide) ?_
  refine w_load i_110_47 rfl rfl ?_
  refine w_getR 156 i_110_48 hκ (⟨rfl, by decide⟩ : isOb 134 7) rfl rfl ?_
  refine w_load i_110_51 rfl rfl ?_
  refine w_load i_110_53 rfl rfl ?_
  refine w_iastN (e := ((10 * x) + n)) i_110_55 hκ (⟨rfl, rfl, by decide⟩ : isAr 156 60) (by omega) (by decide) ?_
  refine w_load i_110_56 rfl rfl ?_
  refine w_getR 157 i_110_57 hκ (⟨rfl, by decide⟩ : isOb 134 7) rfl rfl ?_
  refine w_load i_110_60 rfl rfl ?_
  refine w_load i_110_62 rfl rfl ?_
  refine w_iastN (e := ((10 * x) + n)) i_110_64 hκ (⟨rfl, rfl, by decide⟩ : isAr 157 60) (by omega) (by decide) ?_
  refine w_load i_110_65 rfl rfl ?_
  refine w_getR 151 i_110_66 hκ (⟨rfl, by decide⟩ : isOb 134 7) rfl rfl ?_
  refine w_load i_110_69 rfl rfl ?_
  refine w_dup2 i_110_70 rfl rfl ?_
  refine w_ialdN (e := x) (v := (nI n)) i_110_71 hκ (⟨rfl, rfl, by decide⟩ : isAr 151 6) (by omega) (by decide) ((stM_o (by decide)).trans ((stM_o (by decide)).trans ((stM_o (by decide)).trans ((stM_o (by decide)).trans ((stM_o (by decide)).trans ((stM_o (by decide)).trans (hc))))))) ?_
  refine w_push i_110_72 rfl ?_
  refine w_bin (w := (nI (n + 1))) i_110_73 rfl (nI_add n 1) ?_
  refine w_iastN (e := x) i_110_74 hκ (⟨rfl, rfl, by decide⟩ : isAr 151 6) (by omega) (by decide) ?_
  exact w_vret i_110_75 rfl (k1)
theorem i_113_0 : ins 113 0 = some (.bipush 10, 2, 0, 0, 0, 10) := rfl
theorem i_113_2 : ins 113 2 = some (.iload_n 2, 3, 2, 0, 0, 0) := rfl
theorem i_113_3 : ins 113 3 = some (.imul, 4, 0, 0, 0, 0) := rfl
theorem i_113_4 : ins 113 4 = some (.istore 4, 6, 4, 0, 0, 0) := rfl
theorem S113_0 {Q : Ou → Prop} {M : Mem} {κ : Kp} (hκ : Rd κ) {x y : Nat} (hx : x < 6) (hy : y < 6) {g : Int32}
    (k1 : RT 113 (6, [.ref 134, .int (nI x), .int (nI y), .int g, .int (nI (10 * y))], [], M, κ) Q)
    : RT 113 (0, [.ref 134, .int (nI x), .int (nI y), .int g, UU], [], M, κ) Q := by
  refine w_push i_113_0 rfl ?_
  refine w_load i_113_2 rfl rfl ?_
  refine w_bin (w := (nI (10 * y))) i_113_3 rfl (nI_mul 10 y) ?_
  refine w_store (l1 := [.ref 134, .int (nI x), .int (nI y), .int g, .int (nI (10 * y))]) i_113_4 rfl (Nat.le_of_ble_eq_true rfl) rfl ?_
  exact (k1)
theorem i_113_6 : ins 113 6 = some (.iload 4, 8, 4, 0, 0, 0) := rfl
theorem i_113_8 : ins 113 8 = some (.bipush 10, 10, 0, 0, 0, 10) := rfl
theorem i_113_10 : ins 113 10 = some (.iload_n 2, 11, 2, 0, 0, 0) := rfl
theorem i_113_11 : ins 113 11 = some (.imul, 12, 0, 0, 0, 0) := rfl
theorem i_113_12 : ins 113 12 = some (.aload_n 0, 13, 0, 0, 0, 0) := rfl
theorem i_113_13 : ins 113 13 = some (.getfield 78, 16, 7, 26, 0, 0) := rfl
theorem i_113_16 : ins 113 16 = some (.iload_n 2, 17, 2, 0, 0, 0) := rfl
theorem i_113_17 : ins 113 17 = some (.iaload, 18, 0, 0, 0, 0) := rfl
theorem i_113_18 : ins 113 18 = some (.iadd, 19, 0, 0, 0, 0) := rfl
theorem i_113_19 : ins 113 19 = some (.if_icmp .ge 50, 22, 69, 0, 0, 0) := rfl
theorem i_113_22 : ins 113 22 = some (.aload_n 0, 23, 0, 0, 0, 0) := rfl
theorem i_113_23 : ins 113 23 = some (.iload_n 1, 24, 1, 0, 0, 0) := rfl
theorem i_113_24 : ins 113 24 = some (.aload_n 0, 25, 0, 0, 0, 0) := rfl
theorem i_113_25 : ins 113 25 = some (.getfield 81, 28, 7, 27, 0, 0) := rfl
theorem i_113_28 : ins 113 28 = some (.iload 4, 30, 4, 0, 0, 0) := rfl
theorem i_113_30 : ins 113 30 = some (.iaload, 31, 0, 0, 0, 0) := rfl
theorem i_113_31 : ins 113 31 = some (.aload_n 0, 32, 0, 0, 0, 0) := rfl
theorem i_113_32 : ins 113 32 = some (.getfield 84, 35, 7, 28, 0, 0) := rfl
theorem i_113_35 : ins 113 35 = some (.iload 4, 37, 4, 0, 0, 0) := rfl
theorem i_113_37 : ins 113 37 = some (.iaload, 38, 0, 0, 0, 0) := rfl
theorem i_113_38 : ins 113 38 = some (.aload_n 0, 39, 0, 0, 0, 0) := rfl
theorem i_113_39 : ins 113 39 = some (.getfield 87, 42, 7, 29, 0, 0) := rfl
theorem i_113_42 : ins 113 42 = some (.iload 4, 44, 4, 0, 0, 0) := rfl
theorem i_113_44 : ins 113 44 = some (.iaload, 45, 0, 0, 0, 0) := rfl
theorem i_113_45 : ins 113 45 = some (.aload_n 0, 46, 0, 0, 0, 0) := rfl
theorem i_113_46 : ins 113 46 = some (.getfield 90, 49, 7, 30, 0, 0) := rfl
theorem i_113_49 : ins 113 49 = some (.iload 4, 51, 4, 0, 0, 0) := rfl
theorem i_113_51 : ins 113 51 = some (.iaload, 52, 0, 0, 0, 0) := rfl
theorem i_113_52 : ins 113 52 = some (.aload_n 0, 53, 0, 0, 0, 0) := rfl
theorem i_113_53 : ins 113 53 = some (.getfield 93, 56, 7, 31, 0, 0) := rfl
theorem i_113_56 : ins 113 56 = some (.iload 4, 58, 4, 0, 0, 0) := rfl
theorem i_113_58 : ins 113 58 = some (.iaload, 59, 0, 0, 0, 0) := rfl
theorem i_113_59 : ins 113 59 = some (.iload_n 3, 60, 3, 0, 0, 0) := rfl
theorem i_113_60 : ins 113 60 = some (.invokevirtual 206, 63, 110, 0, 8, 0) := rfl
theorem i_113_69 : ins 113 69 = some (.aload_n 0, 70, 0, 0, 0, 0) := rfl
theorem i_113_70 : ins 113 70 = some (.getfield 62, 73, 7, 21, 0, 0) := rfl
theorem i_113_73 : ins 113 73 = some (.iload_n 2, 74, 2, 0, 0, 0) := rfl
theorem i_113_74 : ins 113 74 = some (.iconst 1, 75, 0, 0, 0, 1) := rfl
theorem i_113_75 : ins 113 75 = some (.bastore, 76, 0, 0, 0, 0) := rfl
theorem i_113_76 : ins 113 76 = some (.return_, 77, 0, 0, 0, 0) := rfl
theorem S113_6 {Q : Ou → Prop} {M : Mem} {κ : Kp} (hκ : Rd κ) {x y n2 k : Nat} (hx : x < 6) (hy : y < 6) (hn2 : n2 ≤ 10) (hk : k ≤ n2) (hc2 : M 151 y = nI n2) {g : Int32}
    (k1 : ((10 * y) + k) < ((10 * y) + n2) → RT 110 (0, entL 110 [.ref 134, .int (nI x), .int (M 152 ((10 * y) + k)), .int (M 153 ((10 * y) + k)), .int (M 154 ((10 * y) + k)), .int (M 155 ((10 * y) + k)), .int (M 156 ((10 * y) + k)), .int g], [], M, κ) (fun o => ∃ v M1 κ1, o = (.inl v, M1, κ1) ∧ RT 113 (63, [.ref 134, .int (nI x), .int (nI y), .int g, .int (nI ((10 * y) + k))], v.toList ++ [], M1, κ1) Q))
    (k2 : ¬ (((10 * y) + k) < ((10 * y) + n2)) → Q (.inl none, (stM M 146 y 1), κ))
    : RT 113 (6, [.ref 134, .int (nI x), .int (nI y), .int g, .int (nI ((10 * y) + k))], [], M, κ) Q := by
  refine w_load i_113_6 rfl rfl ?_
  refine w_push i_113_8 rfl ?_
  refine w_load i_113_10 rfl rfl ?_
  refine w_bin (w := (nI (10 * y))) i_113_11 rfl (nI_mul 10 y) ?_
  refine w_load i_113_12 rfl rfl ?_
  refine w_getR 151 i_113_13 hκ (⟨rfl, by decide⟩ : isOb 134 7) rfl rfl ?_
  refine w_load i_113_16 rfl rfl ?_
  refine w_ialdN (e := y) (v := (nI n2)) i_113_17 hκ (⟨rfl, rfl, by decide⟩ : isAr 151 6) (by omega) (by decide) (hc2) ?_
  refine w_bin (w := (nI ((10 * y) + n2))) i_113_18 rfl (nI_add (10 * y) n2) ?_
  refine w_if2n (((10 * y) + k) < ((10 * y) + n2)) i_113_19 (cN_ge (a := ((10 * y) + k)) (b := ((10 * y) + n2)) (by omega) (by omega)) ?_ ?_
  · intro h1
    refine w_load i_113_22 rfl rfl ?_
    refine w_load i_113_23 rfl rfl ?_
    refine w_load i_113_24 rfl rfl ?_
    refine w_getR 152 i_113_25 hκ (⟨rfl, by decide⟩ : isOb 134 7) rfl rfl ?_
    refine w_load i_113_28 rfl rfl ?_
    refine w_ialdN (e := ((10 * y) + k)) (v := (M 152 ((10 * y) + k))) i_113_30 hκ (⟨rfl, rfl, by decide⟩ : isAr 152 60) (by omega) (by decide) (rfl) ?_
    refine w_load i_113_31 rfl rfl ?_
    refine w_getR 153 i_113_32 hκ (⟨rfl, by decide⟩ : isOb 134 7) rfl rfl ?_
    refine w_load i_113_35 rfl rfl ?_
    refine w_ialdN (e := ((10 * y) + k)) (v := (M 153 ((10 * y) + k))) i_113_37 hκ (⟨rfl, rfl, by decide⟩ : isAr 153 60) (by omega) (by decide) (rfl) ?_
    refine w_load i_113_38 rfl rfl ?_
    refine w_getR 154 i_113_39 hκ (⟨rfl, by decide⟩ : isOb 134 7) rfl rfl ?_
    refine w_load i_113_42 rfl rfl ?_
    refine w_ialdN (e := ((10 * y) + k)) (v := (M 154 ((10 * y) + k))) i_113_44 hκ (⟨rfl, rfl, by decide⟩ : isAr 154 60) (by omega) (by decide) (rfl) ?_
    refine w_load i_113_45 rfl rfl ?_
    refine w_getR 155 i_113_46 hκ (⟨rfl, by decide⟩ : isOb 134 7) rfl rfl ?_
    refine w_load i_113_49 rfl rfl ?_
    refine w_ialdN (e := ((10 * y) + k)) (v := (M 155 ((10 * y) + k))) i_113_51 hκ (⟨rfl, rfl, by decide⟩ : isAr 155 60) (by omega) (by decide) (rfl) ?_
    refine w_load i_113_52 rfl rfl ?_
    refine w_getR 156 i_113_53 hκ (⟨rfl, by decide⟩ : isOb 134 7) rfl rfl ?_
    refine w_load i_113_56 rfl rfl ?_
    refine w_ialdN (e := ((10 * y) + k)) (v := (M 156 ((10 * y) + k))) i_113_58 hκ (⟨rfl, rfl, by decide⟩ : isAr 156 60) (by omega) (by decide) (rfl) ?_
    refine w_load i_113_59 rfl rfl ?_
    exact w_callVI (i := _) i_113_60 ⟨by decide, by decide, by decide, rfl⟩ hκ (⟨rfl, by decide⟩ : isOb 134 7) (av := [.int (nI x), .int (M 152 ((10 * y) + k)), .int (M 153 ((10 * y) + k)), .int (M 154 ((10 * y) + k)), .int (M 155 ((10 * y) + k)), .int (M 156 ((10 * y) + k)), .int g]) (rest := []) rfl rfl (Nat.le_of_ble_eq_true rfl) (k1 h1)
  · intro h2
    refine w_load i_113_69 rfl rfl ?_
    refine w_getR 146 i_113_70 hκ (⟨rfl, by decide⟩ : isOb 134 7) rfl rfl ?_
    refine w_load i_113_73 rfl rfl ?_
    refine w_push i_113_74 rfl ?_
    refine w_zastN (e := y) i_113_75 hκ (⟨rfl, rfl, by decide⟩ : isZr 146 6) (by omega) (by decide) rfl ?_
    exact w_vret i_113_76 rfl (k2 h2)
theorem i_113_63 : ins 113 63 = some (.iinc 4 1, 66, 4, 0, 0, 1) := rfl
theorem i_113_66 : ins 113 66 = some (.goto (-60), 69, 6, 0, 0, 0) := rfl
theorem S113_63 {Q : Ou → Prop} {M : Mem} {κ : Kp} (hκ : Rd κ) {x y k : Nat} (hx : x < 6) (hy : y < 6) (hk : k ≤ 10) {g : Int32}
    (k1 : RT 113 (6, [.ref 134, .int (nI x), .int (nI y), .int g, .int (nI (((10 * y) + k) + 1))], [], M, κ) Q)
    : RT 113 (63, [.ref 134, .int (nI x), .int (nI y), .int g, .int (nI ((10 * y) + k))], [], M, κ) Q := by
  refine w_iincN (n := ((10 * y) + k)) (l1 := [.ref 134, .int (nI x), .int (nI y), .int g, .int (nI (((10 * y) + k) + 1))]) 1 i_113_63 rfl rfl ?_
  refine w_goto i_113_66 ?_
  exact (k1)
theorem i_114_0 : ins 114 0 = some (.aload_n 0, 1, 0, 0, 0, 0) := rfl
theorem i_114_1 : ins 114 1 = some (.getfield 66, 4, 7, 22, 0, 0) := rfl
theorem i_114_4 : ins 114 4 = some (.iload_n 1, 5, 1, 0, 0, 0) := rfl
theorem i_114_5 : ins 114 5 = some (.iconst 1, 6, 0, 0, 0, 1) := rfl
theorem i_114_6 : ins 114 6 = some (.iastore, 7, 0, 0, 0, 0) := rfl
theorem i_114_7 : ins 114 7 = some (.aload_n 0, 8, 0, 0, 0, 0) := rfl
theorem i_114_8 : ins 114 8 = some (.getfield 72, 11, 7, 24, 0, 0) := rfl
theorem i_114_11 : ins 114 11 = some (.iload_n 1, 12, 1, 0, 0, 0) := rfl
theorem i_114_12 : ins 114 12 = some (.iload_n 2, 13, 2, 0, 0, 0) := rfl
theorem i_114_13 : ins 114 13 = some (.iastore, 14, 0, 0, 0, 0) := rfl
theorem i_114_14 : ins 114 14 = some (.return_, 15, 0, 0, 0, 0) := rfl
theorem S114_0 {Q : Ou → Prop} {M : Mem} {κ : Kp} (hκ : Rd κ) {x : Nat} (hx : x < 6) {z : Int32}
    (k1 : Q (.inl none, (stM (stM M 147 x 1) 149 x z), κ))
    : RT 114 (0, [.ref 134, .int (nI x), .int z], [], M, κ) Q := by
  refine w_load i_114_0 rfl rfl ?_
  refine w_getR 147 i_114_1 hκ (⟨rfl, by decide⟩ : isOb 134 7) rfl rfl ?_
  refine w_load i_114_4 rfl rfl ?_
  refine w_push i_114_5 rfl ?_
  refine w_iastN (e := x) i_114_6 hκ (⟨rfl, rfl, by decide⟩ : isAr 147 6) (by omega) (by decide) ?_
  refine w_load i_114_7 rfl rfl ?_
  refine w_getR 149 i_114_8 hκ (⟨rfl, by decide⟩ : isOb 134 7) rfl rfl ?_
  refine w_load i_114_11 rfl rfl ?_
  refine w_load i_114_12 rfl rfl ?_
  refine w_iastN (e := x) i_114_13 hκ (⟨rfl, rfl, by decide⟩ : isAr 149 6) (by omega) (by decide) ?_
  exact w_vret i_114_14 rfl (k1)
theorem i_109_0 : ins 109 0 = some (.aload_n 0, 1, 0, 0, 0, 0) := rfl
theorem i_109_1 : ins 109 1 = some (.aload_n 0, 2, 0, 0, 0, 0) := rfl
theorem i_109_2 : ins 109 2 = some (.getfield 174, 5, 7, 7, 0, 0) := rfl
theorem i_109_5 : ins 109 5 = some (.putfield 196, 8, 7, 20, 0, 0) := rfl
theorem i_109_8 : ins 109 8 = some (.iconst 0, 9, 0, 0, 0, 0) := rfl
theorem i_109_9 : ins 109 9 = some (.istore_n 1, 10, 1, 0, 0, 0) := rfl
theorem S109_0 {Q : Ou → Prop} {M : Mem} {κ : Kp} (hκ : Rd κ) {nb : Nat} (hnb : M 134 7 = nI nb) 
    (k1 : RT 109 (10, [.ref 134, .int (nI 0), UU], [], (stM M 134 20 (nI nb)), κ) Q)
    : RT 109 (0, [.ref 134, UU, UU], [], M, κ) Q := by
  refine w_load i_109_0 rfl rfl ?_
  refine w_load i_109_1 rfl rfl ?_
  refine w_getI (v := (nI nb)) i_109_2 hκ (⟨rfl, by decide⟩ : isOb 134 7) rfl (hnb) ?_
  refine w_putI i_109_5 hκ (⟨rfl, by decide⟩ : isOb 134 7) rfl (fun c => absurd c (by decide)) ?_
  refine w_push i_109_8 rfl ?_
  refine w_store (l1 := [.ref 134, .int 0, UU]) i_109_9 rfl (Nat.le_of_ble_eq_true rfl) rfl ?_
  exact (k1)
theorem i_109_10 : ins 109 10 = some (.iload_n 1, 11, 1, 0, 0, 0) := rfl
theorem i_109_11 : ins 109 11 = some (.aload_n 0, 12, 0, 0, 0, 0) := rfl
theorem i_109_12 : ins 109 12 = some (.getfield 174, 15, 7, 7, 0, 0) := rfl
theorem i_109_15 : ins 109 15 = some (.if_icmp .ge 160, 18, 175, 0, 0, 0) := rfl
theorem i_109_18 : ins 109 18 = some (.aload_n 0, 19, 0, 0, 0, 0) := rfl
theorem i_109_19 : ins 109 19 = some (.getfield 62, 22, 7, 21, 0, 0) := rfl
theorem i_109_22 : ins 109 22 = some (.iload_n 1, 23, 1, 0, 0, 0) := rfl
theorem i_109_23 : ins 109 23 = some (.iconst 0, 24, 0, 0, 0, 0) := rfl
theorem i_109_24 : ins 109 24 = some (.bastore, 25, 0, 0, 0, 0) := rfl
theorem i_109_25 : ins 109 25 = some (.aload_n 0, 26, 0, 0, 0, 0) := rfl
theorem i_109_26 : ins 109 26 = some (.getfield 66, 29, 7, 22, 0, 0) := rfl
theorem i_109_29 : ins 109 29 = some (.iload_n 1, 30, 1, 0, 0, 0) := rfl
theorem i_109_30 : ins 109 30 = some (.aload_n 0, 31, 0, 0, 0, 0) := rfl
theorem i_109_31 : ins 109 31 = some (.getfield 28, 34, 7, 8, 0, 0) := rfl
theorem i_109_34 : ins 109 34 = some (.iload_n 1, 35, 1, 0, 0, 0) := rfl
theorem i_109_35 : ins 109 35 = some (.iaload, 36, 0, 0, 0, 0) := rfl
theorem i_109_36 : ins 109 36 = some (.iastore, 37, 0, 0, 0, 0) := rfl
theorem i_109_37 : ins 109 37 = some (.aload_n 0, 38, 0, 0, 0, 0) := rfl
theorem i_109_38 : ins 109 38 = some (.getfield 69, 41, 7, 23, 0, 0) := rfl
theorem i_109_41 : ins 109 41 = some (.iload_n 1, 42, 1, 0, 0, 0) := rfl
theorem i_109_42 : ins 109 42 = some (.aload_n 0, 43, 0, 0, 0, 0) := rfl
theorem i_109_43 : ins 109 43 = some (.getfield 32, 46, 7, 9, 0, 0) := rfl
theorem i_109_46 : ins 109 46 = some (.iload_n 1, 47, 1, 0, 0, 0) := rfl
theorem i_109_47 : ins 109 47 = some (.iaload, 48, 0, 0, 0, 0) := rfl
theorem i_109_48 : ins 109 48 = some (.iastore, 49, 0, 0, 0, 0) := rfl
theorem i_109_49 : ins 109 49 = some (.aload_n 0, 50, 0, 0, 0, 0) := rfl
theorem i_109_50 : ins 109 50 = some (.getfield 72, 53, 7, 24, 0, 0) := rfl
theorem i_109_53 : ins 109 53 = some (.iload_n 1, 54, 1, 0, 0, 0) := rfl
theorem i_109_54 : ins 109 54 = some (.aload_n 0, 55, 0, 0, 0, 0) := rfl
theorem i_109_55 : ins 109 55 = some (.getfield 35, 58, 7, 10, 0, 0) := rfl
theorem i_109_58 : ins 109 58 = some (.iload_n 1, 59, 1, 0, 0, 0) := rfl
theorem i_109_59 : ins 109 59 = some (.iaload, 60, 0, 0, 0, 0) := rfl
theorem i_109_60 : ins 109 60 = some (.iastore, 61, 0, 0, 0, 0) := rfl
theorem i_109_61 : ins 109 61 = some (.aload_n 0, 62, 0, 0, 0, 0) := rfl
theorem i_109_62 : ins 109 62 = some (.getfield 75, 65, 7, 25, 0, 0) := rfl
theorem i_109_65 : ins 109 65 = some (.iload_n 1, 66, 1, 0, 0, 0) := rfl
theorem i_109_66 : ins 109 66 = some (.aload_n 0, 67, 0, 0, 0, 0) := rfl
theorem i_109_67 : ins 109 67 = some (.getfield 38, 70, 7, 11, 0, 0) := rfl
theorem i_109_70 : ins 109 70 = some (.iload_n 1, 71, 1, 0, 0, 0) := rfl
theorem i_109_71 : ins 109 71 = some (.iaload, 72, 0, 0, 0, 0) := rfl
theorem i_109_72 : ins 109 72 = some (.iastore, 73, 0, 0, 0, 0) := rfl
theorem i_109_73 : ins 109 73 = some (.aload_n 0, 74, 0, 0, 0, 0) := rfl
theorem i_109_74 : ins 109 74 = some (.getfield 78, 77, 7, 26, 0, 0) := rfl
theorem i_109_77 : ins 109 77 = some (.iload_n 1, 78, 1, 0, 0, 0) := rfl
theorem i_109_78 : ins 109 78 = some (.iconst 0, 79, 0, 0, 0, 0) := rfl
theorem i_109_79 : ins 109 79 = some (.iastore, 80, 0, 0, 0, 0) := rfl
theorem i_109_80 : ins 109 80 = some (.iconst 0, 81, 0, 0, 0, 0) := rfl
theorem i_109_81 : ins 109 81 = some (.istore_n 2, 82, 2, 0, 0, 0) := rfl
theorem i_109_175 : ins 109 175 = some (.return_, 176, 0, 0, 0, 0) := rfl
theorem S109_10 {Q : Ou → Prop} {M : Mem} {κ : Kp} (hκ : Rd κ) {nb x : Nat} (hx : x ≤ nb) (hnb6 : nb ≤ 6) (hnb : M 134 7 = nI nb) 
    (k1 : x < nb → RT 109 (82, [.ref 134, .int (nI x), .int (nI 0)], [], (stM (stM (stM (stM (stM (stM M 146 x 0) 147 x (M 135 x)) 148 x (M 136 x)) 149 x (M 137 x)) 150 x (M 138 x)) 151 x 0), κ) Q)
    (k2 : ¬ (x < nb) → Q (.inl none, M, κ))
    : RT 109 (10, [.ref 134, .int (nI x), UU], [], M, κ) Q := by
  refine w_load i_109_10 rfl rfl ?_
  refine w_load i_109_11 rfl rfl ?_
  refine w_getI (v := (nI nb)) i_109_12 hκ (⟨rfl, by decide⟩ : isOb 134 7) rfl (hnb) ?_
  refine w_if2n (x < nb) i_109_15 (cN_ge (a := x) (b := nb) (by omega) (by omega)) ?_ ?_
  · intro h1
    refine w_load i_109_18 rfl rfl ?_
    refine w_getR 146 i_109_19 hκ (⟨rfl, by decide⟩ : isOb 134 7) rfl rfl ?_
    refine w_load i_109_22 rfl rfl ?_
    refine w_push i_109_23 rfl ?_
    refine w_zastN (e := x) i_109_24 hκ (⟨rfl, rfl, by decide⟩ : isZr 146 6) (by omega) (by decide) rfl ?_
    refine w_load i_109_25 rfl rfl ?_
    refine w_getR 147 i_109_26 hκ (⟨rfl, by decide⟩ : isOb 134 7) rfl rfl ?_
    refine w_load i_109_29 rfl rfl ?_
    refine w_load i_109_30 rfl rfl ?_
    refine w_getR 135 i_109_31 hκ (⟨rfl, by decide⟩ : isOb 134 7) rfl rfl ?_
    refine w_load i_109_34 rfl rfl ?_
    refine w_ialdN (e := x) (v := (M 135 x)) i_109_35 hκ (⟨rfl, rfl, by decide⟩ : isAr 135 6) (by omega) (by decide) ((stM_o (by decide)).trans (rfl)) ?_
    refine w_iastN (e := x) i_109_36 hκ (⟨rfl, rfl, by decide⟩ : isAr 147 6) (by omega) (by decide) ?_
    refine w_load i_109_37 rfl rfl ?_
    refine w_getR 148 i_109_38 hκ (⟨rfl, by decide⟩ : isOb 134 7) rfl rfl ?_
    refine w_load i_109_41 rfl rfl ?_
    refine w_load i_109_42 rfl rfl ?_
    refine w_getR 136 i_109_43 hκ (⟨rfl, by decide⟩ : isOb 134 7) rfl rfl ?_
    refine w_load i_109_46 rfl rfl ?_
    refine w_ialdN (e := x) (v := (M 136 x)) i_109_47 hκ (⟨rfl, rfl, by decide⟩ : isAr 136 6) (by omega) (by decide) ((stM_o (by decide)).trans ((stM_o (by decide)).trans (rfl))) ?_
    refine w_iastN (e := x) i_109_48 hκ (⟨rfl, rfl, by decide⟩ : isAr 148 6) (by omega) (by decide) ?_
    refine w_load i_109_49 rfl rfl ?_
    refine w_getR 149 i_109_50 hκ (⟨rfl, by decide⟩ : isOb 134 7) rfl rfl ?_
    refine w_load i_109_53 rfl rfl ?_
    refine w_load i_109_54 rfl rfl ?_
    refine w_getR 137 i_109_55 hκ (⟨rfl, by decide⟩ : isOb 134 7) rfl rfl ?_
    refine w_load i_109_58 rfl rfl ?_
    refine w_ialdN (e := x) (v := (M 137 x)) i_109_59 hκ (⟨rfl, rfl, by decide⟩ : isAr 137 6) (by omega) (by decide) ((stM_o (by decide)).trans ((stM_o (by decide)).trans ((stM_o (by decide)).trans (rfl)))) ?_
    refine w_iastN (e := x) i_109_60 hκ (⟨rfl, rfl, by decide⟩ : isAr 149 6) (by omega) (by decide) ?_
    refine w_load i_109_61 rfl rfl ?_
    refine w_getR 150 i_109_62 hκ (⟨rfl, by decide⟩ : isOb 134 7) rfl rfl ?_
    refine w_load i_109_65 rfl rfl ?_
    refine w_load i_109_66 rfl rfl ?_
    refine w_getR 138 i_109_67 hκ (⟨rfl, by decide⟩ : isOb 134 7) rfl rfl ?_
    refine w_load i_109_70 rfl rfl ?_
    refine w_ialdN (e := x) (v := (M 138 x)) i_109_71 hκ (⟨rfl, rfl, by decide⟩ : isAr 138 6) (by omega) (by decide) ((stM_o (by decide)).trans ((stM_o (by decide)).trans ((stM_o (by decide)).trans ((stM_o (by decide)).trans (rfl))))) ?_
    refine w_iastN (e := x) i_109_72 hκ (⟨rfl, rfl, by decide⟩ : isAr 150 6) (by omega) (by decide) ?_
    refine w_load i_109_73 rfl rfl ?_
    refine w_getR 151 i_109_74 hκ (⟨rfl, by decide⟩ : isOb 134 7) rfl rfl ?_
    refine w_load i_109_77 rfl rfl ?_
    refine w_push i_109_78 rfl ?_
    refine w_iastN (e := x) i_109_79 hκ (⟨rfl, rfl, by decide⟩ : isAr 151 6) (by omega) (by decide) ?_
    refine w_push i_109_80 rfl ?_
    refine w_store (l1 := [.ref 134, .int (nI x), .int 0]) i_109_81 rfl (Nat.le_of_ble_eq_true rfl) rfl ?_
    exact (k1 h1)
  · intro h2
    exact w_vret i_109_175 rfl (k2 h2)
theorem i_109_82 : ins 109 82 = some (.iload_n 2, 83, 2, 0, 0, 0) := rfl
theorem i_109_83 : ins 109 83 = some (.aload_n 0, 84, 0, 0, 0, 0) := rfl
theorem i_109_84 : ins 109 84 = some (.getfield 41, 87, 7, 12, 0, 0) := rfl
theorem i_109_87 : ins 109 87 = some (.iload_n 1, 88, 1, 0, 0, 0) := rfl
theorem i_109_88 : ins 109 88 = some (.iaload, 89, 0, 0, 0, 0) := rfl
theorem i_109_89 : ins 109 89 = some (.if_icmp .ge 80, 92, 169, 0, 0, 0) := rfl
theorem i_109_92 : ins 109 92 = some (.aload_n 0, 93, 0, 0, 0, 0) := rfl
theorem i_109_93 : ins 109 93 = some (.iload_n 1, 94, 1, 0, 0, 0) := rfl
theorem i_109_94 : ins 109 94 = some (.aload_n 0, 95, 0, 0, 0, 0) := rfl
theorem i_109_95 : ins 109 95 = some (.getfield 44, 98, 7, 13, 0, 0) := rfl
theorem i_109_98 : ins 109 98 = some (.bipush 10, 100, 0, 0, 0, 10) := rfl
theorem i_109_100 : ins 109 100 = some (.iload_n 1, 101, 1, 0, 0, 0) := rfl
theorem i_109_101 : ins 109 101 = some (.imul, 102, 0, 0, 0, 0) := rfl
theorem i_109_102 : ins 109 102 = some (.iload_n 2, 103, 2, 0, 0, 0) := rfl
theorem i_109_103 : ins 109 103 = some (.iadd, 104, 0, 0, 0, 0) := rfl
theorem i_109_104 : ins 109 104 = some (.iaload, 105, 0, 0, 0, 0) := rfl
theorem i_109_105 : ins 109 105 = some (.aload_n 0, 106, 0, 0, 0, 0) := rfl
theorem i_109_106 : ins 109 106 = some (.getfield 47, 109, 7, 14, 0, 0) := rfl
theorem i_109_109 : ins 109 109 = some (.bipush 10, 111, 0, 0, 0, 10) := rfl
theorem i_109_111 : ins 109 111 = some (.iload_n 1, 112, 1, 0, 0, 0) := rfl
theorem i_109_112 : ins 109 112 = some (.imul, 113, 0, 0, 0, 0) := rfl
theorem i_109_113 : ins 109 113 = some (.iload_n 2, 114, 2, 0, 0, 0) := rfl
theorem i_109_114 : ins 109 114 = some (.iadd, 115, 0, 0, 0, 0) := rfl
theorem i_109_115 : ins 109 115 = some (.iaload, 116, 0, 0, 0, 0) := rfl
theorem i_109_116 : ins 109 116 = some (.aload_n 0, 117, 0, 0, 0, 0) := rfl
theorem i_109_117 : ins 109 117 = some (.getfield 50, 120, 7, 15, 0, 0) := rfl
theorem i_109_120 : ins 109 120 = some (.bipush 10, 122, 0, 0, 0, 10) := rfl
theorem i_109_122 : ins 109 122 = some (.iload_n 1, 123, 1, 0, 0, 0) := rfl
theorem i_109_123 : ins 109 123 = some (.imul, 124, 0, 0, 0, 0) := rfl
theorem i_109_124 : ins 109 124 = some (.iload_n 2, 125, 2, 0, 0, 0) := rfl
theorem i_109_125 : ins 109 125 = some (.iadd, 126, 0, 0, 0, 0) := rfl
theorem i_109_126 : ins 109 126 = some (.iaload, 127, 0, 0, 0, 0) := rfl
theorem i_109_127 : ins 109 127 = some (.aload_n 0, 128, 0, 0, 0, 0) := rfl
theorem i_109_128 : ins 109 128 = some (.getfield 53, 131, 7, 16, 0, 0) := rfl
theorem i_109_131 : ins 109 131 = some (.bipush 10, 133, 0, 0, 0, 10) := rfl
theorem i_109_133 : ins 109 133 = some (.iload_n 1, 134, 1, 0, 0, 0) := rfl
theorem i_109_134 : ins 109 134 = some (.imul, 135, 0, 0, 0, 0) := rfl
theorem i_109_135 : ins 109 135 = some (.iload_n 2, 136, 2, 0, 0, 0) := rfl
theorem i_109_136 : ins 109 136 = some (.iadd, 137, 0, 0, 0, 0) := rfl
theorem i_109_137 : ins 109 137 = some (.iaload, 138, 0, 0, 0, 0) := rfl
theorem i_109_138 : ins 109 138 = some (.aload_n 0, 139, 0, 0, 0, 0) := rfl
theorem i_109_139 : ins 109 139 = some (.getfield 56, 142, 7, 17, 0, 0) := rfl
theorem i_109_142 : ins 109 142 = some (.bipush 10, 144, 0, 0, 0, 10) := rfl
theorem i_109_144 : ins 109 144 = some (.iload_n 1, 145, 1, 0, 0, 0) := rfl
theorem i_109_145 : ins 109 145 = some (.imul, 146, 0, 0, 0, 0) := rfl
theorem i_109_146 : ins 109 146 = some (.iload_n 2, 147, 2, 0, 0, 0) := rfl
theorem i_109_147 : ins 109 147 = some (.iadd, 148, 0, 0, 0, 0) := rfl
theorem i_109_148 : ins 109 148 = some (.iaload, 149, 0, 0, 0, 0) := rfl
theorem i_109_149 : ins 109 149 = some (.aload_n 0, 150, 0, 0, 0, 0) := rfl
theorem i_109_150 : ins 109 150 = some (.getfield 59, 153, 7, 18, 0, 0) := rfl
theorem i_109_153 : ins 109 153 = some (.bipush 10, 155, 0, 0, 0, 10) := rfl
theorem i_109_155 : ins 109 155 = some (.iload_n 1, 156, 1, 0, 0, 0) := rfl
theorem i_109_156 : ins 109 156 = some (.imul, 157, 0, 0, 0, 0) := rfl
theorem i_109_157 : ins 109 157 = some (.iload_n 2, 158, 2, 0, 0, 0) := rfl
theorem i_109_158 : ins 109 158 = some (.iadd, 159, 0, 0, 0, 0) := rfl
theorem i_109_159 : ins 109 159 = some (.iaload, 160, 0, 0, 0, 0) := rfl
theorem i_109_160 : ins 109 160 = some (.invokevirtual 206, 163, 110, 0, 8, 0) := rfl
theorem i_109_169 : ins 109 169 = some (.iinc 1 1, 172, 1, 0, 0, 1) := rfl
theorem i_109_172 : ins 109 172 = some (.goto (-162), 175, 10, 0, 0, 0) := rfl
theorem S109_82 {Q : Ou → Prop} {M : Mem} {κ : Kp} (hκ : Rd κ) {x n2 k : Nat} (hx : x < 6) (hn2 : n2 ≤ 10) (hk : k ≤ n2) (hc2 : M 139 x = nI n2) 
    (k1 : k < n2 → RT 110 (0, entL 110 [.ref 134, .int (nI x), .int (M 140 ((10 * x) + k)), .int (M 141 ((10 * x) + k)), .int (M 142 ((10 * x) + k)), .int (M 143 ((10 * x) + k)), .int (M 144 ((10 * x) + k)), .int (M 145 ((10 * x) + k))], [], M, κ) (fun o => ∃ v M1 κ1, o = (.inl v, M1, κ1) ∧ RT 109 (163, [.ref 134, .int (nI x), .int (nI k)], v.toList ++ [], M1, κ1) Q))
    (k2 : ¬ (k < n2) → RT 109 (10, [.ref 134, .int (nI (x + 1)), UU], [], M, κ) Q)
    : RT 109 (82, [.ref 134, .int (nI x), .int (nI k)], [], M, κ) Q := by
  refine w_load i_109_82 rfl rfl ?_
  refine w_load i_109_83 rfl rfl ?_
  refine w_getR 139 i_109_84 hκ (⟨rfl, by decide⟩ : isOb 134 7) rfl rfl ?_
  refine w_load i_109_87 rfl rfl ?_
  refine w_ialdN (e := x) (v := (nI n2)) i_109_88 hκ (⟨rfl, rfl, by decide⟩ : isAr 139 6) (by omega) (by decide) (hc2) ?_
  refine w_if2n (k < n2) i_109_89 (cN_ge (a := k) (b := n2) (by omega) (by omega)) ?_ ?_
  · intro h1
    refine w_load i_109_92 rfl rfl ?_
    refine w_load i_109_93 rfl rfl ?_
    refine w_load i_109_94 rfl rfl ?_
    refine w_getR 140 i_109_95 hκ (⟨rfl, by decide⟩ : isOb 134 7) rfl rfl ?_
    refine w_push i_109_98 rfl ?_
    refine w_load i_109_100 rfl rfl ?_
    refine w_bin (w := (nI (10 * x))) i_109_101 rfl (nI_mul 10 x) ?_
    refine w_load i_109_102 rfl rfl ?_
    refine w_bin (w := (nI ((10 * x) + k))) i_109_103 rfl (nI_add (10 * x) k) ?_
    refine w_ialdN (e := ((10 * x) + k)) (v := (M 140 ((10 * x) + k))) i_109_104 hκ (⟨rfl, rfl, by decide⟩ : isAr 140 60) (by omega) (by decide) (rfl) ?_
    refine w_load i_109_105 rfl rfl ?_
    refine w_getR 141 i_109_106 hκ (⟨rfl, by decide⟩ : isOb 134 7) rfl rfl ?_
    refine w_push i_109_109 rfl ?_
    refine w_load i_109_111 rfl rfl ?_
    refine w_bin (w := (nI (10 * x))) i_109_112 rfl (nI_mul 10 x) ?_
    refine w_load i_109_113 rfl rfl ?_
    refine w_bin (w := (nI ((10 * x) + k))) i_109_114 rfl (nI_add (10 * x) k) ?_
    refine w_ialdN (e := ((10 * x) + k)) (v := (M 141 ((10 * x) + k))) i_109_115 hκ (⟨rfl, rfl, by decide⟩ : isAr 141 60) (by omega) (by decide) (rfl) ?_
    refine w_load i_109_116 rfl rfl ?_
    refine w_getR 142 i_109_117 hκ (⟨rfl, by decide⟩ : isOb 134 7) rfl rfl ?_
    refine w_push i_109_120 rfl ?_
    refine w_load i_109_122 rfl rfl ?_
    refine w_bin (w := (nI (10 * x))) i_109_123 rfl (nI_mul 10 x) ?_
    refine w_load i_109_124 rfl rfl ?_
    refine w_bin (w := (nI ((10 * x) + k))) i_109_125 rfl (nI_add (10 * x) k) ?_
    refine w_ialdN (e := ((10 * x) + k)) (v := (M 142 ((10 * x) + k))) i_109_126 hκ (⟨rfl, rfl, by decide⟩ : isAr 142 60) (by omega) (by decide) (rfl) ?_
    refine w_load i_109_127 rfl rfl ?_
    refine w_getR 143 i_109_128 hκ (⟨rfl, by decide⟩ : isOb 134 7) rfl rfl ?_
    refine w_push i_109_131 rfl ?_
    refine w_load i_109_133 rfl rfl ?_
    refine w_bin (w := (nI (10 * x))) i_109_134 rfl (nI_mul 10 x) ?_
    refine w_load i_109_135 rfl rfl ?_
    refine w_bin (w := (nI ((10 * x) + k))) i_109_136 rfl (nI_add (10 * x) k) ?_
    refine w_ialdN (e := ((10 * x) + k)) (v := (M 143 ((10 * x) + k))) i_109_137 hκ (⟨rfl, rfl, by decide⟩ : isAr 143 60) (by omega) (by decide) (rfl) ?_
    refine w_load i_109_138 rfl rfl ?_
    refine w_getR 144 i_109_139 hκ (⟨rfl, by decide⟩ : isOb 134 7) rfl rfl ?_
    refine w_push i_109_142 rfl ?_
    refine w_load i_109_144 rfl rfl ?_
    refine w_bin (w := (nI (10 * x))) i_109_145 rfl (nI_mul 10 x) ?_
    refine w_load i_109_146 rfl rfl ?_
    refine w_bin (w := (nI ((10 * x) + k))) i_109_147 rfl (nI_add (10 * x) k) ?_
    refine w_ialdN (e := ((10 * x) + k)) (v := (M 144 ((10 * x) + k))) i_109_148 hκ (⟨rfl, rfl, by decide⟩ : isAr 144 60) (by omega) (by decide) (rfl) ?_
    refine w_load i_109_149 rfl rfl ?_
    refine w_getR 145 i_109_150 hκ (⟨rfl, by decide⟩ : isOb 134 7) rfl rfl ?_
    refine w_push i_109_153 rfl ?_
    refine w_load i_109_155 rfl rfl ?_
    refine w_bin (w := (nI (10 * x))) i_109_156 rfl (nI_mul 10 x) ?_
    refine w_load i_109_157 rfl rfl ?_
    refine w_bin (w := (nI ((10 * x) + k))) i_109_158 rfl (nI_add (10 * x) k) ?_
    refine w_ialdN (e := ((10 * x) + k)) (v := (M 145 ((10 * x) + k))) i_109_159 hκ (⟨rfl, rfl, by decide⟩ : isAr 145 60) (by omega) (by decide) (rfl) ?_
    exact w_callVI (i := _) i_109_160 ⟨by decide, by decide, by decide, rfl⟩ hκ (⟨rfl, by decide⟩ : isOb 134 7) (av := [.int (nI x), .int (M 140 ((10 * x) + k)), .int (M 141 ((10 * x) + k)), .int (M 142 ((10 * x) + k)), .int (M 143 ((10 * x) + k)), .int (M 144 ((10 * x) + k)), .int (M 145 ((10 * x) + k))]) (rest := []) rfl rfl (Nat.le_of_ble_eq_true rfl) (k1 h1)
  · intro h2
    refine w_iincN (n := x) (l1 := [.ref 134, .int (nI (x + 1)), .int (nI k)]) 1 i_109_169 rfl rfl ?_
    refine w_goto i_109_172 ?_
    exact w_weak (lle_s (lle_s (lle_u lle_n))) (k2 h2)
theorem i_109_163 : ins 109 163 = some (.iinc 2 1, 166, 2, 0, 0, 1) := rfl
theorem i_109_166 : ins 109 166 = some (.goto (-84), 169, 82, 0, 0, 0) := rfl
theorem S109_163 {Q : Ou → Prop} {M : Mem} {κ : Kp} (hκ : Rd κ) {x k : Nat} (hx : x < 6) (hk : k ≤ 10) 
    (k1 : RT 109 (82, [.ref 134, .int (nI x), .int (nI (k + 1))], [], M, κ) Q)
    : RT 109 (163, [.ref 134, .int (nI x), .int (nI k)], [], M, κ) Q := by
  refine w_iincN (n := k) (l1 := [.ref 134, .int (nI x), .int (nI (k + 1))]) 1 i_109_163 rfl rfl ?_
  refine w_goto i_109_166 ?_
  exact (k1)
variable {Q : Ou → Prop} {M M0 : Mem} {κ : Kp}
def anyN (f : Nat → Bool) : Nat → Bool
  | 0 => false
  | k + 1 => anyN f k || f k
theorem anyN_iff {f : Nat → Bool} : ∀ n, anyN f n = true ↔ ∃ k, k < n ∧ f k = true := fun n => by
  induction n with
  | zero => exact ⟨fun h => (by cases h), fun ⟨k, hk, _⟩ => absurd hk (Nat.not_lt_zero k)⟩
  | succ n ih =>
    rw [anyN, Bool.or_eq_true, ih]
    constructor
    · rintro (⟨k, h1, h2⟩ | h)
      · exact ⟨k, by omega, h2⟩
      · exact ⟨n, Nat.lt_succ_self n, h⟩
    · rintro ⟨k, h1, h2⟩
      by_cases e : k = n
      · exact .inr (e ▸ h2)
      · exact .inl ⟨k, by omega, h2⟩
theorem anyN_of {f : Nat → Bool} {n k : Nat} (hk : k < n) (h : f k = true) : anyN f n = true := (anyN_iff n).mpr ⟨k, hk, h⟩
theorem six {P : Nat → Prop} (h0 : P 0) (h1 : P 1) (h2 : P 2) (h3 : P 3) (h4 : P 4) (h5 : P 5) : ∀ f, f < 6 → P f := fun f hf => by
  have : f = 0 ∨ f = 1 ∨ f = 2 ∨ f = 3 ∨ f = 4 ∨ f = 5 := by omega
  rcases this with rfl | rfl | rfl | rfl | rfl | rfl <;> assumption
section BK
variable {b o n n2 x y : Nat} {O : Op}
theorem f2 (hκ : Rd κ) {c d a bb nn g : Int32} (hb : isBl b) (hn : n < 10) (hc : M b 4 = nI n)
    (K : ∀ M', (∀ o j, ¬ (o = b ∧ j = 4) → ¬ (b + 1 ≤ o ∧ o ≤ b + 6 ∧ j = n) → M' o j = M o j) → M' b 4 = nI (n + 1) → M' (b + 1 + 0) n = c → M' (b + 1 + 1) n = d → M' (b + 1 + 2) n = a → M' (b + 1 + 3) n = bb → M' (b + 1 + 4) n = nn → M' (b + 1 + 5) n = g → Q (.inl none, M', κ)) :
    RT 2 (0, entL 2 [.ref b, .int c, .int d, .int a, .int bb, .int nn, .int g], [], M, κ) Q := by
  refine S2_0 hκ hb hn hc ?_
  rw [if_pos hn]
  refine K _ (fun o j h1 h2 => ?_) stM_s ?_ ?_ ?_ ?_ ?_ ?_
  · rw [stM_n (by omega), stM_n (by omega), stM_n (by omega), stM_n (by omega), stM_n (by omega), stM_n (by omega), stM_n (by omega)]
  · rw [stM_o (by omega), stM_o (by omega), stM_o (by omega), stM_o (by omega), stM_o (by omega), stM_o (by omega), stM_s]
  · rw [stM_o (by omega), stM_o (by omega), stM_o (by omega), stM_o (by omega), stM_o (by omega), stM_s]
  · rw [stM_o (by omega), stM_o (by omega), stM_o (by omega), stM_o (by omega), stM_s]
  · rw [stM_o (by omega), stM_o (by omega), stM_o (by omega), stM_s]
  · rw [stM_o (by omega), stM_o (by omega), stM_s]
  · rw [stM_o (by omega), stM_s]
theorem f3 (hκ : Rd κ) (hb : isBl b) (ho : isBl o) (hob : o + 7 ≤ b ∨ b + 7 ≤ o) (hn2 : n2 ≤ 10) (hc2 : M0 o 4 = nI n2)
    (K : ∀ M', (∀ x j, ¬ (b ≤ x ∧ x ≤ b + 6) → M' x j = M0 x j) → M' b 0 = M0 o 0 → M' b 1 = M0 o 1 → M' b 2 = M0 o 2 → M' b 3 = M0 o 3 → M' b 4 = nI n2 → M' b 5 = 0 → (∀ f, f < 6 → ∀ j, j < n2 → M' (b + 1 + f) j = M0 (o + 1 + f) j) → Q (.inl none, M', κ)) :
    RT 3 (0, entL 3 [.ref b, .ref o], [], M0, κ) Q := by
  refine S3_0 hκ hb ho (S1_0 hκ hb ⟨none, _, κ, rfl, ?_⟩)
  refine S3_20 hκ hb ho ?_
  refine loopI (n := n2) (fun k M => RT 3 (22, [.ref b, .ref o, .int (nI k)], [], M, κ) Q) (fun k M => (∀ x j, ¬ (b ≤ x ∧ x ≤ b + 6) → M x j = M0 x j) ∧ M b 0 = M0 o 0 ∧ M b 1 = M0 o 1 ∧ M b 2 = M0 o 2 ∧ M b 3 = M0 o 3 ∧ M b 4 = nI k ∧ M b 5 = 0 ∧ ∀ f, f < 6 → ∀ j, j < k → M (b + 1 + f) j = M0 (o + 1 + f) j) (fun k M hk hI ih => ?_) (fun M hI => ?_) 0 _ (Nat.zero_le _) ⟨fun x j h => ?_, ?_, ?_, ?_, ?_, ?_, stM_s, fun f hf j hj => absurd hj (Nat.not_lt_zero j)⟩
  · obtain ⟨h1, h2, h3, h4, h5, h6, h7, h8⟩ := hI
    refine S3_22 hκ hb ho hn2 (by omega) ((h1 _ _ (by omega)).trans hc2) (fun _ => ?_) (fun z => absurd hk z)
    refine f2 hκ hb (by omega) h6 (fun M' g1 g2 a0 a1 a2 a3 a4 a5 => ⟨none, M', κ, rfl, ?_⟩)
    have gb : ∀ j, ¬ j = 4 → M' b j = M b j := fun j hj => g1 b j (by omega) (by omega)
    refine S3_70 hκ hb ho (by omega) (ih M' ⟨fun x j h => (g1 x j (by omega) (by omega)).trans (h1 x j h), (gb 0 (by decide)).trans h2, (gb 1 (by decide)).trans h3, (gb 2 (by decide)).trans h4, (gb 3 (by decide)).trans h5, g2, (gb 5 (by decide)).trans h7, fun f hf j hj => ?_⟩)
    by_cases e : j = k
    · subst e
      revert f
      refine six ?_ ?_ ?_ ?_ ?_ ?_
      · exact a0.trans (h1 _ _ (by omega))
      · exact a1.trans (h1 _ _ (by omega))
      · exact a2.trans (h1 _ _ (by omega))
      · exact a3.trans (h1 _ _ (by omega))
      · exact a4.trans (h1 _ _ (by omega))
      · exact a5.trans (h1 _ _ (by omega))
    · rw [g1 _ _ (by omega) (by omega)]
      exact h8 f hf j (by omega)
  · obtain ⟨h1, h2, h3, h4, h5, h6, h7, h8⟩ := hI
    exact S3_22 hκ hb ho hn2 (Nat.le_refl _) ((h1 _ _ (by omega)).trans hc2) (fun z => absurd z (Nat.lt_irrefl _)) (fun _ => K M h1 h2 h3 h4 h5 h6 h7 h8)
  · rw [stM_n (by omega), stM_n (by omega), stM_n (by omega), stM_n (by omega), stM_n (by omega), stM_n (by omega)]
  · rw [stM_j (by decide), stM_j (by decide), stM_j (by decide), stM_j (by decide), stM_j (by decide), stM_s]
  · rw [stM_j (by decide), stM_j (by decide), stM_j (by decide), stM_j (by decide), stM_s]
  · rw [stM_j (by decide), stM_j (by decide), stM_j (by decide), stM_s]
  · rw [stM_j (by decide), stM_j (by decide), stM_s]
  · rw [stM_j (by decide), stM_s]
    rfl
theorem f4 (hκ : Rd κ) {g : Int32} (hb : isBl b) (ho : isBl o) (hob : o + 7 ≤ b ∨ b + 7 ≤ o) (hn : n + n2 ≤ 10) (hc : M0 b 4 = nI n) (hc2 : M0 o 4 = nI n2)
    (K : ∀ M', (∀ x j, ¬ (x = b ∧ j = 4) → ¬ (x = o ∧ j = 5) → ¬ (b + 1 ≤ x ∧ x ≤ b + 6 ∧ n ≤ j ∧ j < n + n2) → M' x j = M0 x j) → M' b 4 = nI (n + n2) → M' o 5 = 1 → (∀ f, f < 6 → ∀ j, j < n2 → M' (b + 1 + f) (n + j) = if f = 5 then g else M0 (o + 1 + f) j) → Q (.inl none, M', κ)) :
    RT 4 (0, entL 4 [.ref b, .ref o, .int g], [], M0, κ) Q := by
  refine S4_0 hκ hb ho ?_
  refine loopI (n := n2) (fun k M => RT 4 (2, [.ref b, .ref o, .int g, .int (nI k)], [], M, κ) Q) (fun k M => (∀ x j, ¬ (x = b ∧ j = 4) → ¬ (b + 1 ≤ x ∧ x ≤ b + 6 ∧ n ≤ j ∧ j < n + n2) → M x j = M0 x j) ∧ M b 4 = nI (n + k) ∧ ∀ f, f < 6 → ∀ j, j < k → M (b + 1 + f) (n + j) = if f = 5 then g else M0 (o + 1 + f) j) (fun k M hk hI ih => ?_) (fun M hI => ?_) 0 _ (Nat.zero_le _) ⟨fun x j _ _ => rfl, hc, fun f hf j hj => absurd hj (Nat.not_lt_zero j)⟩
  · obtain ⟨h1, h6, h8⟩ := hI
    refine S4_2 hκ hb ho (by omega) (by omega) ((h1 _ _ (by omega) (by omega)).trans hc2) (fun _ => ?_) (fun z => absurd hk z)
    refine f2 hκ hb (by omega) h6 (fun M' g1 g2 a0 a1 a2 a3 a4 a5 => ⟨none, M', κ, rfl, ?_⟩)
    refine S4_45 hκ hb ho (by omega) (ih M' ⟨fun x j h h' => (g1 x j (by omega) (by omega)).trans (h1 x j h h'), g2, fun f hf j hj => ?_⟩)
    by_cases e : j = k
    · subst e
      revert f
      refine six ?_ ?_ ?_ ?_ ?_ ?_
      · rw [if_neg (by decide)]; exact a0.trans (h1 _ _ (by omega) (by omega))
      · rw [if_neg (by decide)]; exact a1.trans (h1 _ _ (by omega) (by omega))
      · rw [if_neg (by decide)]; exact a2.trans (h1 _ _ (by omega) (by omega))
      · rw [if_neg (by decide)]; exact a3.trans (h1 _ _ (by omega) (by omega))
      · rw [if_neg (by decide)]; exact a4.trans (h1 _ _ (by omega) (by omega))
      · rw [if_pos rfl]; exact a5
    · rw [g1 _ _ (by omega) (by omega)]
      exact h8 f hf j (by omega)
  · obtain ⟨h1, h6, h8⟩ := hI
    refine S4_2 hκ hb ho (by omega) (Nat.le_refl _) ((h1 _ _ (by omega) (by omega)).trans hc2) (fun z => absurd z (Nat.lt_irrefl _)) (fun _ => K _ (fun x j h h' h'' => (stM_n h').trans (h1 x j h h'')) ((stM_n (by omega)).trans h6) stM_s (fun f hf j hj => (stM_o (by omega)).trans (h8 f hf j hj)))
theorem c7 (hκ : Rd κ) (hb : isBl b) (hn : n ≤ 10) (hc : M b 4 = nI n) (hO : ∀ f, f < 6 → ∀ j, j < n → M (b + 1 + f) j = O f j) : Run 7 (0, entL 7 [.ref b], [], M, κ) (.inl (some (.int (bI (anyN (fun k => decide (¬ O 5 k = 0)) n)))), M, κ) := by
  refine RT_run (S7_0 (k := 0) hκ hb hn (by omega) hc hO ?_)
  refine loopI (n := n) (fun k (_ : Unit) => RT 7 (2, [.ref b, .int (nI k)], [], M, κ) _) (fun k _ => anyN (fun k => decide (¬ O 5 k = 0)) k = false) (fun k u hk hI ih => ?_) (fun u hI => ?_) 0 () (Nat.zero_le _) rfl
  · refine S7_2 hκ hb hn (by omega) hc hO (fun _ h => ih () ?_) (fun _ h => ?_) (fun z => absurd hk z)
    · rw [anyN, hI, decide_eq_false (fun z => z h)]
      rfl
    · rw [anyN_of hk (decide_eq_true h)]
      rfl
  · refine S7_2 hκ hb hn (Nat.le_refl _) hc hO (fun z => absurd z (Nat.lt_irrefl _)) (fun z => absurd z (Nat.lt_irrefl _)) (fun _ => ?_)
    rw [hI]
    rfl
theorem c8 (hκ : Rd κ) {v : Int32} (hb : isBl b) (hn : n ≤ 10) (hc : M b 4 = nI n) (hO : ∀ f, f < 6 → ∀ j, j < n → M (b + 1 + f) j = O f j) : Run 8 (0, entL 8 [.ref b, .int v], [], M, κ) (.inl (some (.int (bI (anyN (fun k => decide (wr O k = v)) n)))), M, κ) := by
  refine RT_run (S8_0 (k := 0) hκ hb hn (by omega) hc hO ?_)
  refine loopI (n := n) (fun k (_ : Unit) => RT 8 (2, [.ref b, .int v, .int (nI k)], [], M, κ) _) (fun k _ => anyN (fun k => decide (wr O k = v)) k = false) (fun k u hk hI ih => ?_) (fun u hI => ?_) 0 () (Nat.zero_le _) rfl
  · refine S8_2 hκ hb hn (by omega) hc hO (fun _ h => ?_) (fun _ h => ih () ?_) (fun z => absurd hk z)
    · rw [anyN_of hk (decide_eq_true (show wr O k = v from h))]
      rfl
    · rw [anyN, hI, decide_eq_false (show ¬ wr O k = v from h)]
      rfl
  · refine S8_2 hκ hb hn (Nat.le_refl _) hc hO (fun z => absurd z (Nat.lt_irrefl _)) (fun z => absurd z (Nat.lt_irrefl _)) (fun _ => ?_)
    rw [hI]
    rfl
-- the model
theorem f110 (hκ : Rd κ) {c d a bb nn g : Int32} (hx : x < 6) (hn : n < 10) (hc : M 151 x = nI n)
    (K : ∀ M', (∀ o j, ¬ (o = 151 ∧ j = x) → ¬ (152 ≤ o ∧ o ≤ 157 ∧ j = 10 * x + n) → M' o j = M o j) → M' 151 x = nI (n + 1) → M' (152 + 0) (10 * x + n) = c → M' (152 + 1) (10 * x + n) = d → M' (152 + 2) (10 * x + n) = a → M' (152 + 3) (10 * x + n) = bb → M' (152 + 4) (10 * x + n) = nn → M' (152 + 5) (10 * x + n) = g → Q (.inl none, M', κ)) :
    RT 110 (0, entL 110 [.ref 134, .int (nI x), .int c, .int d, .int a, .int bb, .int nn, .int g], [], M, κ) Q := by
  refine S110_0 hκ hx hn hc ?_
  refine K _ (fun o j h1 h2 => ?_) stM_s ?_ ?_ ?_ ?_ ?_ ?_
  · rw [stM_n (by omega), stM_n (by omega), stM_n (by omega), stM_n (by omega), stM_n (by omega), stM_n (by omega), stM_n (by omega)]
  · rw [stM_o (by decide), stM_o (by decide), stM_o (by decide), stM_o (by decide), stM_o (by decide), stM_o (by decide), stM_s]
  · rw [stM_o (by decide), stM_o (by decide), stM_o (by decide), stM_o (by decide), stM_o (by decide), stM_s]
  · rw [stM_o (by decide), stM_o (by decide), stM_o (by decide), stM_o (by decide), stM_s]
  · rw [stM_o (by decide), stM_o (by decide), stM_o (by decide), stM_s]
  · rw [stM_o (by decide), stM_o (by decide), stM_s]
  · rw [stM_o (by decide), stM_s]
theorem f113 (hκ : Rd κ) {g : Int32} (hx : x < 6) (hy : y < 6) (hxy : ¬ x = y) (hn : n + n2 ≤ 10) (hc : M0 151 x = nI n) (hc2 : M0 151 y = nI n2)
    (K : ∀ M', (∀ o j, ¬ (o = 151 ∧ j = x) → ¬ (o = 146 ∧ j = y) → ¬ (152 ≤ o ∧ o ≤ 157 ∧ 10 * x + n ≤ j ∧ j < 10 * x + (n + n2)) → M' o j = M0 o j) → M' 151 x = nI (n + n2) → M' 146 y = 1 → (∀ f, f < 6 → ∀ j, j < n2 → M' (152 + f) (10 * x + (n + j)) = if f = 5 then g else M0 (152 + f) (10 * y + j)) → Q (.inl none, M', κ)) :
    RT 113 (0, entL 113 [.ref 134, .int (nI x), .int (nI y), .int g], [], M0, κ) Q := by
  refine S113_0 hκ hx hy ?_
  refine loopI (n := n2) (fun k M => RT 113 (6, [.ref 134, .int (nI x), .int (nI y), .int g, .int (nI ((10 * y) + k))], [], M, κ) Q) (fun k M => (∀ o j, ¬ (o = 151 ∧ j = x) → ¬ (152 ≤ o ∧ o ≤ 157 ∧ 10 * x + n ≤ j ∧ j < 10 * x + (n + n2)) → M o j = M0 o j) ∧ M 151 x = nI (n + k) ∧ ∀ f, f < 6 → ∀ j, j < k → M (152 + f) (10 * x + (n + j)) = if f = 5 then g else M0 (152 + f) (10 * y + j)) (fun k M hk hI ih => ?_) (fun M hI => ?_) 0 _ (Nat.zero_le _) ⟨fun x j _ _ => rfl, hc, fun f hf j hj => absurd hj (Nat.not_lt_zero j)⟩
  · obtain ⟨h1, h6, h8⟩ := hI
    refine S113_6 hκ hx hy (by omega) (by omega) ((h1 _ _ (by omega) (by omega)).trans hc2) (fun _ => ?_) (fun z => absurd (by omega) z)
    refine f110 hκ hx (by omega) h6 (fun M' g1 g2 a0 a1 a2 a3 a4 a5 => ⟨none, M', κ, rfl, ?_⟩)
    refine S113_63 hκ hx hy (by omega) (ih M' ⟨fun o j h h' => (g1 o j (by omega) (by omega)).trans (h1 o j h h'), g2, fun f hf j hj => ?_⟩)
    by_cases e : j = k
    · subst e
      revert f
      refine six ?_ ?_ ?_ ?_ ?_ ?_
      · rw [if_neg (by decide)]; exact a0.trans (h1 _ _ (by omega) (by omega))
      · rw [if_neg (by decide)]; exact a1.trans (h1 _ _ (by omega) (by omega))
      · rw [if_neg (by decide)]; exact a2.trans (h1 _ _ (by omega) (by omega))
      · rw [if_neg (by decide)]; exact a3.trans (h1 _ _ (by omega) (by omega))
      · rw [if_neg (by decide)]; exact a4.trans (h1 _ _ (by omega) (by omega))
      · rw [if_pos rfl]; exact a5
    · rw [g1 _ _ (by omega) (by omega)]
      exact h8 f hf j (by omega)
  · obtain ⟨h1, h6, h8⟩ := hI
    refine S113_6 hκ hx hy (by omega) (Nat.le_refl _) ((h1 _ _ (by omega) (by omega)).trans hc2) (fun z => absurd z (Nat.lt_irrefl _)) (fun _ => K _ (fun o j h h' h'' => (stM_n h').trans (h1 o j h h'')) ((stM_n (by omega)).trans h6) stM_s (fun f hf j hj => (stM_o (by omega)).trans (h8 f hf j hj)))
/-- how the model copies the given blocks -/
theorem f109 (hκ : Rd κ) {nb : Nat} {cnt : Nat → Nat} (hnb6 : nb ≤ 6) (hnb : M0 134 7 = nI nb) (hcnt : ∀ x, x < nb → M0 139 x = nI (cnt x) ∧ cnt x ≤ 10)
    (K : ∀ M', (∀ o j, ¬ (o = 134 ∧ j = 20) → ¬ (146 ≤ o ∧ o ≤ 157) → M' o j = M0 o j) → M' 134 20 = nI nb → (∀ x, x < nb → M' 146 x = 0 ∧ M' 147 x = M0 135 x ∧ M' 148 x = M0 136 x ∧ M' 149 x = M0 137 x ∧ M' 150 x = M0 138 x ∧ M' 151 x = nI (cnt x) ∧ ∀ f, f < 6 → ∀ j, j < cnt x → M' (152 + f) (10 * x + j) = M0 (140 + f) (10 * x + j)) → Q (.inl none, M', κ)) :
    RT 109 (0, entL 109 [.ref 134], [], M0, κ) Q := by
  refine S109_0 hκ hnb ?_
  refine loopI (n := nb) (fun x M => RT 109 (10, [.ref 134, .int (nI x), UU], [], M, κ) Q) (fun x M => (∀ o j, ¬ (o = 134 ∧ j = 20) → ¬ (146 ≤ o ∧ o ≤ 157) → M o j = M0 o j) ∧ M 134 20 = nI nb ∧ ∀ y, y < x → M 146 y = 0 ∧ M 147 y = M0 135 y ∧ M 148 y = M0 136 y ∧ M 149 y = M0 137 y ∧ M 150 y = M0 138 y ∧ M 151 y = nI (cnt y) ∧ ∀ f, f < 6 → ∀ j, j < cnt y → M (152 + f) (10 * y + j) = M0 (140 + f) (10 * y + j)) (fun x M hx hI ih => ?_) (fun M hI => ?_) 0 _ (Nat.zero_le _) ⟨fun o j h _ => stM_n h, stM_s, fun y hy => absurd hy (Nat.not_lt_zero y)⟩
  · obtain ⟨h1, h2, h3⟩ := hI
    have hcx := hcnt x hx
    refine S109_10 hκ (by omega) hnb6 ((h1 _ _ (by omega) (by omega)).trans hnb) (fun _ => ?_) (fun z => absurd hx z)
    refine loopI (n := cnt x) (fun k M => RT 109 (82, [.ref 134, .int (nI x), .int (nI k)], [], M, κ) Q) (fun k M2 => (∀ o j, ¬ (146 ≤ o ∧ o ≤ 151 ∧ j = x) → ¬ (152 ≤ o ∧ o ≤ 157 ∧ 10 * x ≤ j ∧ j < 10 * x + 10) → M2 o j = M o j) ∧ M2 146 x = 0 ∧ M2 147 x = M0 135 x ∧ M2 148 x = M0 136 x ∧ M2 149 x = M0 137 x ∧ M2 150 x = M0 138 x ∧ M2 151 x = nI k ∧ ∀ f, f < 6 → ∀ j, j < k → M2 (152 + f) (10 * x + j) = M0 (140 + f) (10 * x + j)) (fun k M2 hk hJ ih2 => ?_) (fun M2 hJ => ?_) 0 _ (Nat.zero_le _) ⟨fun o j h h' => ?_, ?_, ?_, ?_, ?_, ?_, stM_s, fun f hf j hj => absurd hj (Nat.not_lt_zero j)⟩
    · obtain ⟨k1, k2, k3, k4, k5, k6, k7, k8⟩ := hJ
      have fM : ∀ o j, o < 134 ∨ (134 < o ∧ o < 146) → M2 o j = M0 o j := fun o j h => (k1 o j (by omega) (by omega)).trans (h1 o j (by omega) (by omega))
      refine S109_82 hκ (by omega) hcx.2 (by omega) ((fM _ _ (by omega)).trans hcx.1) (fun _ => ?_) (fun z => absurd hk z)
      refine f110 hκ (by omega) (by omega) k7 (fun M' g1 g2 a0 a1 a2 a3 a4 a5 => ⟨none, M', κ, rfl, ?_⟩)
      have gz : ∀ o, o ≤ 150 → M' o x = M2 o x := fun o ho => g1 o x (by omega) (by omega)
      refine S109_163 hκ (by omega) (by omega) (ih2 M' ⟨fun o j h h' => (g1 o j (by omega) (by omega)).trans (k1 o j h h'), (gz _ (by decide)).trans k2, (gz _ (by decide)).trans k3, (gz _ (by decide)).trans k4, (gz _ (by decide)).trans k5, (gz _ (by decide)).trans k6, g2, fun f hf j hj => ?_⟩)
      by_cases e : j = k
      · subst e
        revert f
        refine six ?_ ?_ ?_ ?_ ?_ ?_
        · exact a0.trans (fM _ _ (by omega))
        · exact a1.trans (fM _ _ (by omega))
        · exact a2.trans (fM _ _ (by omega))
        · exact a3.trans (fM _ _ (by omega))
        · exact a4.trans (fM _ _ (by omega))
        · exact a5.trans (fM _ _ (by omega))
      · rw [g1 _ _ (by omega) (by omega)]
        exact k8 f hf j (by omega)
    · obtain ⟨k1, k2, k3, k4, k5, k6, k7, k8⟩ := hJ
      have fM : ∀ o j, o < 134 ∨ (134 < o ∧ o < 146) → M2 o j = M0 o j := fun o j h => (k1 o j (by omega) (by omega)).trans (h1 o j (by omega) (by omega))
      refine S109_82 hκ (by omega) hcx.2 (Nat.le_refl _) ((fM _ _ (by omega)).trans hcx.1) (fun z => absurd z (Nat.lt_irrefl _)) (fun _ => ih M2 ⟨fun o j h h' => (k1 o j (by omega) (by omega)).trans (h1 o j h h'), (k1 _ _ (by omega) (by omega)).trans h2, fun y hy => ?_⟩)
      by_cases e : y = x
      · rw [e]
        exact ⟨k2, k3, k4, k5, k6, k7, k8⟩
      · obtain ⟨b1, b2, b3, b4, b5, b6, b7⟩ := h3 y (by omega)
        refine ⟨(k1 _ _ (by omega) (by omega)).trans b1, (k1 _ _ (by omega) (by omega)).trans b2, (k1 _ _ (by omega) (by omega)).trans b3, (k1 _ _ (by omega) (by omega)).trans b4, (k1 _ _ (by omega) (by omega)).trans b5, (k1 _ _ (by omega) (by omega)).trans b6, fun f hf j hj => ?_⟩
        have := (hcnt y (by omega)).2
        rw [k1 _ _ (by omega) (by omega)]
        exact b7 f hf j hj
    · rw [stM_n (by omega), stM_n (by omega), stM_n (by omega), stM_n (by omega), stM_n (by omega), stM_n (by omega)]
    · rw [stM_o (by decide), stM_o (by decide), stM_o (by decide), stM_o (by decide), stM_o (by decide), stM_s]
    · rw [stM_o (by decide), stM_o (by decide), stM_o (by decide), stM_o (by decide), stM_s]
      exact h1 _ _ (by omega) (by omega)
    · rw [stM_o (by decide), stM_o (by decide), stM_o (by decide), stM_s]
      exact h1 _ _ (by omega) (by omega)
    · rw [stM_o (by decide), stM_o (by decide), stM_s]
      exact h1 _ _ (by omega) (by omega)
    · rw [stM_o (by decide), stM_s]
      exact h1 _ _ (by omega) (by omega)
  · obtain ⟨h1, h2, h3⟩ := hI
    exact S109_10 hκ (Nat.le_refl _) hnb6 ((h1 _ _ (by omega) (by omega)).trans hnb) (fun z => absurd z (Nat.lt_irrefl _)) (fun _ => K M h1 h2 h3)
end BK
end P_42_blocks
