/-! MODULO: the class tries an interval -/
section P_33_try
theorem i_43_0 : ins 43 0 = some (.aload_n 0, 1, 0, 0, 0, 0) := rfl
theorem i_43_1 : ins 43 1 = some (.aload_n 1, 2, 1, 0, 0, 0) := rfl
theorem i_43_2 : ins 43 2 = some (.iload_n 3, 3, 3, 0, 0, 0) := rfl
theorem i_43_3 : ins 43 3 = some (.invokevirtual 93, 6, 42, 0, 3, 0) := rfl
theorem i_43_6 : ins 43 6 = some (.ifCond .ne 5, 9, 11, 0, 0, 0) := rfl
theorem i_43_9 : ins 43 9 = some (.iconst 0, 10, 0, 0, 0, 0) := rfl
theorem i_43_10 : ins 43 10 = some (.ireturn, 11, 0, 0, 0, 0) := rfl
theorem i_43_11 : ins 43 11 = some (.iconst 0, 12, 0, 0, 0, 0) := rfl
theorem i_43_12 : ins 43 12 = some (.istore 4, 14, 4, 0, 0, 0) := rfl
theorem S43_0 {Q : Ou → Prop} {M : Mem} {κ : Kp} (hκ : Rd κ) {p : Nat} (hp : isPl p) {ii : Nat} (b_ii : ii ≤ 100000)
    (k1 : RT 42 (0, entL 42 [.ref 122, .ref 113, .int (nI ii)], [], M, κ) (fun o => ∃ v M1 κ1, o = (.inl v, M1, κ1) ∧ RT 43 (6, [.ref 122, .ref 113, .ref p, .int (nI ii), UU, UU], v.toList ++ [], M1, κ1) Q))
    : RT 43 (0, [.ref 122, .ref 113, .ref p, .int (nI ii), UU, UU], [], M, κ) Q := by
  refine w_load i_43_0 rfl rfl ?_
  refine w_load i_43_1 rfl rfl ?_
  refine w_load i_43_2 rfl rfl ?_
  exact w_callVI (i := _) i_43_3 ⟨by decide, by decide, by decide, rfl⟩ hκ (⟨rfl, by decide⟩ : isOb 122 3) (av := [.ref 113, .int (nI ii)]) (rest := []) rfl rfl (Nat.le_of_ble_eq_true rfl) (k1)
theorem S43_6 {Q : Ou → Prop} {M : Mem} {κ : Kp} (hκ : Rd κ) {p : Nat} (hp : isPl p) {ii : Nat} {b : Bool} (b_ii : ii ≤ 100000)
    (k1 : b = true → RT 43 (14, [.ref 122, .ref 113, .ref p, .int (nI ii), .int (nI 0), UU], [], M, κ) Q)
    (k2 : ¬ (b = true) → Q (.inl (some (.int 0)), M, κ))
    : RT 43 (6, [.ref 122, .ref 113, .ref p, .int (nI ii), UU, UU], [.int (bI b)], M, κ) Q := by
  refine w_if0 (b = true) i_43_6 cB_ne ?_ ?_
  · intro h1
    refine w_push i_43_11 rfl ?_
    refine w_store (l1 := [.ref 122, .ref 113, .ref p, .int (nI ii), .int 0, UU]) i_43_12 rfl (Nat.le_of_ble_eq_true rfl) rfl ?_
    exact (k1 h1)
  · intro h2
    refine w_push i_43_9 rfl ?_
    exact w_iret i_43_10 (.inr ⟨rfl, rfl⟩) (k2 h2)
theorem i_43_14 : ins 43 14 = some (.iload 4, 16, 4, 0, 0, 0) := rfl
theorem i_43_16 : ins 43 16 = some (.aload_n 1, 17, 1, 0, 0, 0) := rfl
theorem i_43_17 : ins 43 17 = some (.getfield 37, 20, 1, 0, 0, 0) := rfl
theorem i_43_20 : ins 43 20 = some (.if_icmp .ge 25, 23, 45, 0, 0, 0) := rfl
theorem i_43_23 : ins 43 23 = some (.aload_n 2, 24, 2, 0, 0, 0) := rfl
theorem i_43_24 : ins 43 24 = some (.getfield 63, 27, 5, 7, 0, 0) := rfl
theorem i_43_27 : ins 43 27 = some (.iload 4, 29, 4, 0, 0, 0) := rfl
theorem i_43_29 : ins 43 29 = some (.iconst (-1), 30, 0, 0, 0, (-1)) := rfl
theorem i_43_30 : ins 43 30 = some (.iastore, 31, 0, 0, 0, 0) := rfl
theorem i_43_31 : ins 43 31 = some (.aload_n 0, 32, 0, 0, 0, 0) := rfl
theorem i_43_32 : ins 43 32 = some (.getfield 15, 35, 3, 1, 0, 0) := rfl
theorem i_43_35 : ins 43 35 = some (.iload 4, 37, 4, 0, 0, 0) := rfl
theorem i_43_37 : ins 43 37 = some (.iconst (-1), 38, 0, 0, 0, (-1)) := rfl
theorem i_43_38 : ins 43 38 = some (.iastore, 39, 0, 0, 0, 0) := rfl
theorem i_43_39 : ins 43 39 = some (.iinc 4 1, 42, 4, 0, 0, 1) := rfl
theorem i_43_42 : ins 43 42 = some (.goto (-28), 45, 14, 0, 0, 0) := rfl
theorem i_43_45 : ins 43 45 = some (.iconst 0, 46, 0, 0, 0, 0) := rfl
theorem i_43_46 : ins 43 46 = some (.istore 4, 48, 4, 0, 0, 0) := rfl
theorem S43_14 {Q : Ou → Prop} {M : Mem} {κ : Kp} (hκ : Rd κ) {p n k : Nat} (hp : isPl p) (hk : k ≤ n) (hn : n ≤ 10) (hc : M 113 0 = nI n) {ii : Nat} (b_ii : ii ≤ 100000)
    (k1 : k < n → RT 43 (14, [.ref 122, .ref 113, .ref p, .int (nI ii), .int (nI (k + 1)), UU], [], (stM (stM M (p + 3) k (-1)) 124 k (-1)), κ) Q)
    (k2 : ¬ (k < n) → RT 43 (48, [.ref 122, .ref 113, .ref p, .int (nI ii), .int (nI 0), UU], [], M, κ) Q)
    : RT 43 (14, [.ref 122, .ref 113, .ref p, .int (nI ii), .int (nI k), UU], [], M, κ) Q := by
  refine w_load i_43_14 rfl rfl ?_
  refine w_load i_43_16 rfl rfl ?_
  refine w_getI (v := (nI n)) i_43_17 hκ (⟨rfl, by decide⟩ : isOb 113 1) rfl (hc) ?_
  refine w_if2n (k < n) i_43_20 (cN_ge (a := k) (b := n) (by omega) (by omega)) ?_ ?_
  · intro h1
    refine w_load i_43_23 rfl rfl ?_
    refine w_getR (p + 3) i_43_24 hκ (pl_ob hp) rfl rfl ?_
    refine w_load i_43_27 rfl rfl ?_
    refine w_push i_43_29 rfl ?_
    refine w_iastN (e := k) i_43_30 hκ (pl_ar hp 3 (by decide)) (by omega) (by decide) ?_
    refine w_load i_43_31 rfl rfl ?_
    refine w_getR 124 i_43_32 hκ (⟨rfl, by decide⟩ : isOb 122 3) rfl rfl ?_
    refine w_load i_43_35 rfl rfl ?_
    refine w_push i_43_37 rfl ?_
    refine w_iastN (e := k) i_43_38 hκ (⟨rfl, rfl, by decide⟩ : isAr 124 10) (by omega) (by decide) ?_
    refine w_iincN (n := k) (l1 := [.ref 122, .ref 113, .ref p, .int (nI ii), .int (nI (k + 1)), UU]) 1 i_43_39 rfl rfl ?_
    refine w_goto i_43_42 ?_
    exact (k1 h1)
  · intro h2
    refine w_push i_43_45 rfl ?_
    refine w_store (l1 := [.ref 122, .ref 113, .ref p, .int (nI ii), .int 0, UU]) i_43_46 rfl (Nat.le_of_ble_eq_true rfl) rfl ?_
    exact (k2 h2)
theorem i_43_48 : ins 43 48 = some (.iload 4, 50, 4, 0, 0, 0) := rfl
theorem i_43_50 : ins 43 50 = some (.bipush 6, 52, 0, 0, 0, 6) := rfl
theorem i_43_52 : ins 43 52 = some (.aload_n 1, 53, 1, 0, 0, 0) := rfl
theorem i_43_53 : ins 43 53 = some (.getfield 37, 56, 1, 0, 0, 0) := rfl
theorem i_43_56 : ins 43 56 = some (.imul, 57, 0, 0, 0, 0) := rfl
theorem i_43_57 : ins 43 57 = some (.if_icmp .ge 35, 60, 92, 0, 0, 0) := rfl
theorem i_43_60 : ins 43 60 = some (.aload_n 0, 61, 0, 0, 0, 0) := rfl
theorem i_43_61 : ins 43 61 = some (.aload_n 1, 62, 1, 0, 0, 0) := rfl
theorem i_43_62 : ins 43 62 = some (.aload_n 2, 63, 2, 0, 0, 0) := rfl
theorem i_43_63 : ins 43 63 = some (.invokevirtual 105, 66, 44, 0, 3, 0) := rfl
theorem i_43_66 : ins 43 66 = some (.istore 5, 68, 5, 0, 0, 0) := rfl
theorem i_43_68 : ins 43 68 = some (.iload 5, 70, 5, 0, 0, 0) := rfl
theorem i_43_70 : ins 43 70 = some (.iconst (-1), 71, 0, 0, 0, (-1)) := rfl
theorem i_43_71 : ins 43 71 = some (.if_icmp .ne 6, 74, 77, 0, 0, 0) := rfl
theorem i_43_74 : ins 43 74 = some (.goto 18, 77, 92, 0, 0, 0) := rfl
theorem i_43_77 : ins 43 77 = some (.aload_n 0, 78, 0, 0, 0, 0) := rfl
theorem i_43_78 : ins 43 78 = some (.aload_n 1, 79, 1, 0, 0, 0) := rfl
theorem i_43_79 : ins 43 79 = some (.aload_n 2, 80, 2, 0, 0, 0) := rfl
theorem i_43_80 : ins 43 80 = some (.iload 5, 82, 5, 0, 0, 0) := rfl
theorem i_43_82 : ins 43 82 = some (.iload_n 3, 83, 3, 0, 0, 0) := rfl
theorem i_43_83 : ins 43 83 = some (.invokevirtual 109, 86, 45, 0, 5, 0) := rfl
theorem i_43_86 : ins 43 86 = some (.iinc 4 1, 89, 4, 0, 0, 1) := rfl
theorem i_43_89 : ins 43 89 = some (.goto (-41), 92, 48, 0, 0, 0) := rfl
theorem i_43_92 : ins 43 92 = some (.aload_n 0, 93, 0, 0, 0, 0) := rfl
theorem i_43_93 : ins 43 93 = some (.aload_n 1, 94, 1, 0, 0, 0) := rfl
theorem i_43_94 : ins 43 94 = some (.aload_n 2, 95, 2, 0, 0, 0) := rfl
theorem i_43_95 : ins 43 95 = some (.invokevirtual 105, 98, 44, 0, 3, 0) := rfl
theorem i_43_98 : ins 43 98 = some (.iconst (-1), 99, 0, 0, 0, (-1)) := rfl
theorem i_43_99 : ins 43 99 = some (.if_icmp .ne 18, 102, 117, 0, 0, 0) := rfl
theorem i_43_102 : ins 43 102 = some (.aload_n 1, 103, 1, 0, 0, 0) := rfl
theorem i_43_103 : ins 43 103 = some (.aload_n 2, 104, 2, 0, 0, 0) := rfl
theorem i_43_104 : ins 43 104 = some (.iload_n 3, 105, 3, 0, 0, 0) := rfl
theorem i_43_105 : ins 43 105 = some (.invokestatic 66, 108, 40, 1, 3, 0) := rfl
theorem i_43_108 : ins 43 108 = some (.bipush 15, 110, 0, 0, 0, 15) := rfl
theorem i_43_110 : ins 43 110 = some (.if_icmp .gt 7, 113, 117, 0, 0, 0) := rfl
theorem i_43_113 : ins 43 113 = some (.iconst 1, 114, 0, 0, 0, 1) := rfl
theorem i_43_114 : ins 43 114 = some (.goto 4, 117, 118, 0, 0, 0) := rfl
theorem i_43_117 : ins 43 117 = some (.iconst 0, 118, 0, 0, 0, 0) := rfl
theorem i_43_118 : ins 43 118 = some (.ireturn, 119, 0, 0, 0, 0) := rfl
theorem S43_48 {Q : Ou → Prop} {M : Mem} {κ : Kp} (hκ : Rd κ) {p n k : Nat} (hp : isPl p) (hk : k ≤ 6 * n) (hn : n ≤ 10) (hc : M 113 0 = nI n) {ii : Nat} (b_ii : ii ≤ 100000) {r_95 : Int32} {r_105 : Int32} {r_63 : Int32}
    (o1 : (((k < (6 * n)) ∧ (r_63 = (-1))) ∨ (¬ (k < (6 * n)))) → Run 44 (0, entL 44 [.ref 122, .ref 113, .ref p], [], M, κ) (.inl (some (.int r_95)), M, κ))
    (o2 : (((k < (6 * n)) ∧ (r_63 = (-1))) ∨ (¬ (k < (6 * n)))) → r_95 = (-1) → Run 40 (0, entL 40 [.ref 113, .ref p, .int (nI ii)], [], M, κ) (.inl (some (.int r_105)), M, κ))
    (o3 : k < (6 * n) → Run 44 (0, entL 44 [.ref 122, .ref 113, .ref p], [], M, κ) (.inl (some (.int r_63)), M, κ))
    (k1 : (((k < (6 * n)) ∧ (r_63 = (-1))) ∨ (¬ (k < (6 * n)))) → Q (.inl (some (.int (bI (if r_95 = (-1) then (if 15 < r_105 then false else true) else false)))), M, κ))
    (k2 : k < (6 * n) → ¬ (r_63 = (-1)) → RT 45 (0, entL 45 [.ref 122, .ref 113, .ref p, .int r_63, .int (nI ii)], [], M, κ) (fun o => ∃ v M1 κ1, o = (.inl v, M1, κ1) ∧ RT 43 (86, [.ref 122, .ref 113, .ref p, .int (nI ii), .int (nI k), .int r_63], v.toList ++ [], M1, κ1) Q))
    : RT 43 (48, [.ref 122, .ref 113, .ref p, .int (nI ii), .int (nI k), UU], [], M, κ) Q := by
  refine w_load i_43_48 rfl rfl ?_
  refine w_push i_43_50 rfl ?_
  refine w_load i_43_52 rfl rfl ?_
  refine w_getI (v := (nI n)) i_43_53 hκ (⟨rfl, by decide⟩ : isOb 113 1) rfl (hc) ?_
  refine w_bin (w := (nI (6 * n))) i_43_56 rfl (nI_mul 6 n) ?_
  have K1 : (((k < (6 * n)) ∧ (r_63 = (-1))) ∨ (¬ (k < (6 * n)))) → RT 43 (92, [.ref 122, .ref 113, .ref p, .int (nI ii), .int (nI k), UU], [], M, κ) Q := by
    intro h2
    refine w_load i_43_92 rfl rfl ?_
    refine w_load i_43_93 rfl rfl ?_
    refine w_load i_43_94 rfl rfl ?_
    refine w_callV (i := _) i_43_95 ⟨by decide, by decide, by decide, rfl⟩ hκ (⟨rfl, by decide⟩ : isOb 122 3) (av := [.ref 113, .ref p]) (rest := []) rfl rfl (Nat.le_of_ble_eq_true rfl) (v := some (.int r_95)) (o1 h2) ?_
    refine w_push i_43_98 rfl ?_
    have K3 : RT 43 (118, [.ref 122, .ref 113, .ref p, .int (nI ii), .int (nI k), UU], [.int (bI (if r_95 = (-1) then (if 15 < r_105 then false else true) else false))], M, κ) Q := by
      exact w_iret i_43_118 (.inr ⟨rfl, isB_bI _⟩) (k1 h2)
    refine w_if2n (r_95 = (-1)) i_43_99 cI_ne ?_ ?_
    · intro h4
      refine w_load i_43_102 rfl rfl ?_
      refine w_load i_43_103 rfl rfl ?_
      refine w_load i_43_104 rfl rfl ?_
      refine w_callS i_43_105 ⟨by decide, by decide, by decide, rfl, rfl⟩ (av := [.ref 113, .ref p, .int (nI ii)]) (rest := []) rfl rfl (Nat.le_of_ble_eq_true rfl) (v := some (.int r_105)) (o2 h2 h4) ?_
      refine w_push i_43_108 rfl ?_
      refine w_if2 (15 < r_105) i_43_110 cI_gt ?_ ?_
      · intro h5
        refine w_push i_43_117 rfl ?_
        exact (by first | exact (K3) | (have K9 := K3; simp only [↓if_pos h4, ↓if_pos h5] at K9 ⊢; exact (K9)))
      · intro h6
        refine w_push i_43_113 rfl ?_
        refine w_goto i_43_114 ?_
        exact (by first | exact (K3) | (have K9 := K3; simp only [↓if_pos h4, ↓if_neg h6] at K9 ⊢; exact (K9)))
    · intro h7
      refine w_push i_43_117 rfl ?_
      exact (by first | exact (K3) | (have K9 := K3; simp only [↓if_neg h7] at K9 ⊢; exact (K9)))
  refine w_if2n (k < (6 * n)) i_43_57 (cN_ge (a := k) (b := (6 * n)) (by omega) (by omega)) ?_ ?_
  · intro h8
    refine w_load i_43_60 rfl rfl ?_
    refine w_load i_43_61 rfl rfl ?_
    refine w_load i_43_62 rfl rfl ?_
    refine w_callV (i := _) i_43_63 ⟨by decide, by decide, by decide, rfl⟩ hκ (⟨rfl, by decide⟩ : isOb 122 3) (av := [.ref 113, .ref p]) (rest := []) rfl rfl (Nat.le_of_ble_eq_true rfl) (v := some (.int r_63)) (o3 h8) ?_
    refine w_store (l1 := [.ref 122, .ref 113, .ref p, .int (nI ii), .int (nI k), .int r_63]) i_43_66 rfl (Nat.le_of_ble_eq_true rfl) rfl ?_
    refine w_load i_43_68 rfl rfl ?_
    refine w_push i_43_70 rfl ?_
    refine w_if2n (r_63 = (-1)) i_43_71 cI_ne ?_ ?_
    · intro h9
      refine w_goto i_43_74 ?_
      exact (by first | exact w_weak (lle_s (lle_s (lle_s (lle_s (lle_s (lle_u lle_n)))))) (K1 (.inl ⟨h8, h9⟩)) | (have K9 := K1 (.inl ⟨h8, h9⟩); simp only [↓if_pos h8, ↓if_pos h9] at K9 ⊢; exact w_weak (lle_s (lle_s (lle_s (lle_s (lle_s (lle_u lle_n)))))) (K9)))
    · intro h10
      refine w_load i_43_77 rfl rfl ?_
      refine w_load i_43_78 rfl rfl ?_
      refine w_load i_43_79 rfl rfl ?_
      refine w_load i_43_80 rfl rfl ?_
      refine w_load i_43_82 rfl rfl ?_
      exact w_callVI (i := _) i_43_83 ⟨by decide, by decide, by decide, rfl⟩ hκ (⟨rfl, by decide⟩ : isOb 122 3) (av := [.ref 113, .ref p, .int r_63, .int (nI ii)]) (rest := []) rfl rfl (Nat.le_of_ble_eq_true rfl) (k2 h8 h10)
  · intro h11
    exact (by first | exact (K1 (.inr h11)) | (have K9 := K1 (.inr h11); simp only [↓if_neg h11] at K9 ⊢; exact (K9)))
theorem S43_86 {Q : Ou → Prop} {M : Mem} {κ : Kp} (hκ : Rd κ) {p n k : Nat} (hp : isPl p) (hk : k ≤ 6 * n) (hn : n ≤ 10) (hc : M 113 0 = nI n) {ii : Nat} (b_ii : ii ≤ 100000)
    (k1 : RT 43 (48, [.ref 122, .ref 113, .ref p, .int (nI ii), .int (nI (k + 1)), UU], [], M, κ) Q)
    : RT 43 (86, [.ref 122, .ref 113, .ref p, .int (nI ii), .int (nI k), UU], [], M, κ) Q := by
  refine w_iincN (n := k) (l1 := [.ref 122, .ref 113, .ref p, .int (nI ii), .int (nI (k + 1)), UU]) 1 i_43_86 rfl rfl ?_
  refine w_goto i_43_89 ?_
  exact (k1)
theorem i_40_0 : ins 40 0 = some (.iconst 0, 1, 0, 0, 0, 0) := rfl
theorem i_40_1 : ins 40 1 = some (.istore_n 3, 2, 3, 0, 0, 0) := rfl
theorem i_40_2 : ins 40 2 = some (.iconst 0, 3, 0, 0, 0, 0) := rfl
theorem i_40_3 : ins 40 3 = some (.istore 4, 5, 4, 0, 0, 0) := rfl
theorem i_40_5 : ins 40 5 = some (.iload 4, 7, 4, 0, 0, 0) := rfl
theorem i_40_7 : ins 40 7 = some (.aload_n 0, 8, 0, 0, 0, 0) := rfl
theorem i_40_8 : ins 40 8 = some (.getfield 37, 11, 1, 0, 0, 0) := rfl
theorem i_40_11 : ins 40 11 = some (.if_icmp .ge 25, 14, 36, 0, 0, 0) := rfl
theorem i_40_14 : ins 40 14 = some (.iload_n 3, 15, 3, 0, 0, 0) := rfl
theorem i_40_15 : ins 40 15 = some (.aload_n 1, 16, 1, 0, 0, 0) := rfl
theorem i_40_16 : ins 40 16 = some (.getfield 63, 19, 5, 7, 0, 0) := rfl
theorem i_40_19 : ins 40 19 = some (.iload 4, 21, 4, 0, 0, 0) := rfl
theorem i_40_21 : ins 40 21 = some (.iaload, 22, 0, 0, 0, 0) := rfl
theorem i_40_22 : ins 40 22 = some (.iload_n 2, 23, 2, 0, 0, 0) := rfl
theorem i_40_23 : ins 40 23 = some (.invokestatic 74, 26, 62, 1, 2, 0) := rfl
theorem i_40_26 : ins 40 26 = some (.invokestatic 78, 29, 164, 1, 2, 0) := rfl
theorem i_40_29 : ins 40 29 = some (.istore_n 3, 30, 3, 0, 0, 0) := rfl
theorem i_40_30 : ins 40 30 = some (.iinc 4 1, 33, 4, 0, 0, 1) := rfl
theorem i_40_33 : ins 40 33 = some (.goto (-28), 36, 5, 0, 0, 0) := rfl
theorem i_40_36 : ins 40 36 = some (.iload_n 3, 37, 3, 0, 0, 0) := rfl
theorem i_40_37 : ins 40 37 = some (.ireturn, 38, 0, 0, 0, 0) := rfl
theorem S40_0 {Q : Ou → Prop} {M : Mem} {κ : Kp} (hκ : Rd κ) {p n k : Nat} (hp : isPl p) (hk : k ≤ n) (hn : n ≤ 10) (hc : M 113 0 = nI n) {ii : Int32}
    (k1 : RT 40 (5, [.ref 113, .ref p, .int ii, .int 0, .int (nI 0)], [], M, κ) Q)
    : RT 40 (0, [.ref 113, .ref p, .int ii, UU, UU], [], M, κ) Q := by
  refine w_push i_40_0 rfl ?_
  refine w_store (l1 := [.ref 113, .ref p, .int ii, .int 0, UU]) i_40_1 rfl (Nat.le_of_ble_eq_true rfl) rfl ?_
  refine w_push i_40_2 rfl ?_
  refine w_store (l1 := [.ref 113, .ref p, .int ii, .int 0, .int 0]) i_40_3 rfl (Nat.le_of_ble_eq_true rfl) rfl ?_
  exact (k1)
theorem S40_5 {Q : Ou → Prop} {M : Mem} {κ : Kp} (hκ : Rd κ) {p n k : Nat} (hp : isPl p) (hk : k ≤ n) (hn : n ≤ 10) (hc : M 113 0 = nI n) {ii : Int32} {mo : Int32}
    (k1 : k < n → RT 40 (5, [.ref 113, .ref p, .int ii, .int (mx mo (dvF (M (p + 3) k) ii)), .int (nI (k + 1))], [], M, κ) Q)
    (k2 : ¬ (k < n) → Q (.inl (some (.int mo)), M, κ))
    : RT 40 (5, [.ref 113, .ref p, .int ii, .int mo, .int (nI k)], [], M, κ) Q := by
  refine w_load i_40_5 rfl rfl ?_
  refine w_load i_40_7 rfl rfl ?_
  refine w_getI (v := (nI n)) i_40_8 hκ (⟨rfl, by decide⟩ : isOb 113 1) rfl (hc) ?_
  refine w_if2n (k < n) i_40_11 (cN_ge (a := k) (b := n) (by omega) (by omega)) ?_ ?_
  · intro h1
    refine w_load i_40_14 rfl rfl ?_
    refine w_load i_40_15 rfl rfl ?_
    refine w_getR (p + 3) i_40_16 hκ (pl_ob hp) rfl rfl ?_
    refine w_load i_40_19 rfl rfl ?_
    refine w_ialdN (e := k) (v := (M (p + 3) k)) i_40_21 hκ (pl_ar hp 3 (by decide)) (by omega) (by decide) (rfl) ?_
    refine w_load i_40_22 rfl rfl ?_
    refine w_callS i_40_23 ⟨by decide, by decide, by decide, rfl, rfl⟩ (av := [.int (M (p + 3) k), .int ii]) (rest := [.int mo]) rfl rfl (Nat.le_of_ble_eq_true rfl) (v := some (.int (dvF (M (p + 3) k) ii))) (c62 hκ) ?_
    refine w_mmax i_40_26 rfl (by decide) (Nat.le_of_ble_eq_true rfl) ?_
    refine w_store (l1 := [.ref 113, .ref p, .int ii, .int (mx mo (dvF (M (p + 3) k) ii)), .int (nI k)]) i_40_29 rfl (Nat.le_of_ble_eq_true rfl) rfl ?_
    refine w_iincN (n := k) (l1 := [.ref 113, .ref p, .int ii, .int (mx mo (dvF (M (p + 3) k) ii)), .int (nI (k + 1))]) 1 i_40_30 rfl rfl ?_
    refine w_goto i_40_33 ?_
    exact (k1 h1)
  · intro h2
    refine w_load i_40_36 rfl rfl ?_
    exact w_iret i_40_37 (.inl rfl) (k2 h2)
variable {Q : Ou → Prop} {M M0 : Mem} {κ : Kp}
section MC
variable {n p : Nat} {W : Nat → Nat → Option Int32} {P : Nat → Int32} {Pt : Nat → Bool} {U : Bool → Nat} {ii : Nat} {c hd : Nat → Int32} {k : Nat}
theorem l45 (hκ : Rd κ) {a : Int32} (hp : isPl p) (hk : k < n) (hn : n ≤ 10) (hc : M 113 0 = nI n) (hi0 : 1 ≤ ii) (hii : ii ≤ 1000) (hW : CW M n W) (hr : Wrg n W) (hcy : ∀ i, i < n → M (p + 3) i = c i) (hhd : ∀ i, i < n → M 124 i = hd i) (hR : LRw M n (nI ii) c)
    (K : ∀ M', (∀ o x, ¬ (o = p + 3 ∨ o = 124 ∨ o = 125) → M' o x = M o x) → (∀ i, i < n → M' (p + 3) i = evi n W (up c k a) k a i) → (∀ i, i < n → M' 124 i = up hd k a i) → LRw M' n (nI ii) (evi n W (up c k a) k a) → Q (.inl none, M', κ)) :
    RT 45 (112, [UU, .ref 113, .ref p, .int (nI k), UU, UU, .int a, .int (nI 0), UU], [], stM (stM (stM M (p + 3) k a) 124 k a) 125 k (rmF a (nI ii)), κ) Q := by
  have hr2 := pl_rng hp
  have hrm : rmF a (nI ii) = rm a (nI ii) := if_pos (by rw [ltI, nI_toInt (by omega), c0]; omega)
  rw [hrm]
  refine loopI (n := n) (fun j M' => RT 45 (112, [UU, .ref 113, .ref p, .int (nI k), UU, UU, .int a, .int (nI j), UU], [], M', κ) Q) (fun j M' => (∀ o x, ¬ (o = p + 3 ∨ o = 124 ∨ o = 125) → M' o x = M o x) ∧ (∀ i, i < n → M' (p + 3) i = if i < j ∧ evb W (up c k a) k a i = true then -1 else up c k a i) ∧ (∀ i, i < n → M' 124 i = up hd k a i) ∧ (∀ i, i < n → ¬ up c k a i = -1 → M' 125 i = rm (up c k a i) (nI ii))) (fun j M' hj hI ih => ?_) (fun M' hI => ?_) 0 _ (Nat.zero_le _) ⟨fun o x h => ?_, fun i hi => ?_, fun i hi => ?_, fun i hi hne => ?_⟩
  · obtain ⟨h1, h2, h3, h4⟩ := hI
    refine S45_112 hκ hp hk hn ((h1 _ _ (by omega)).trans hc) (by omega) (fun _ => ?_) (fun z => absurd hj z)
    have e : (if j = k then M' else (if (M' 118 (k * 10 + j)) = (-1000000) then M' else (if (M' (p + 3) j) = (-1) then M' else (if (M' (p + 3) j) < (a + (M' 118 (k * 10 + j))) then (stM M' (p + 3) j (-1)) else M')))) = if evb W (up c k a) k a j = true then stM M' (p + 3) j (-1) else M' := by
      have hj2 := h2 j hj
      rw [if_neg (fun z => absurd z.1 (Nat.lt_irrefl j))] at hj2
      rw [hj2, (h1 118 _ (by omega)).trans (hW k j hk hj)]
      have ho := Wrg_C hr hk hj
      unfold evb
      cases q : W k j with
      | none =>
        rw [if_pos (show enc (-1000000) none = -1000000 from rfl), ite_self, if_neg (show ¬ false = true from Bool.false_ne_true)]
      | some w =>
        rw [q] at ho
        rw [if_neg (show ¬ enc (-1000000) (some w) = -1000000 from enc_ne (ho w rfl))]
        show _ = if (decide (¬ j = k) && decide (¬ up c k a j = -1) && decide (up c k a j < a + w)) = true then _ else _
        by_cases q1 : j = k
        · rw [if_pos q1, decide_eq_false (fun z => z q1)]
          rfl
        · rw [if_neg q1, decide_eq_true q1, Bool.true_and]
          by_cases q2 : up c k a j = -1
          · rw [if_pos q2, decide_eq_false (fun z => z q2)]
            rfl
          · rw [if_neg q2, decide_eq_true q2, Bool.true_and]
            show (if up c k a j < a + w then _ else _) = _
            by_cases q3 : up c k a j < a + w
            · rw [if_pos q3, if_pos (decide_eq_true q3)]
            · rw [if_neg q3, if_neg (fun z => q3 (of_decide_eq_true z))]
    rw [e]
    by_cases q : evb W (up c k a) k a j = true
    · rw [if_pos q]
      refine ih _ ⟨fun o x h => (stM_o (by omega)).trans (h1 o x h), fun i hi => ?_, fun i hi => (stM_o (by omega)).trans (h3 i hi), fun i hi hne => (stM_o (by omega)).trans (h4 i hi hne)⟩
      by_cases e2 : i = j
      · rw [e2, stM_s, if_pos ⟨Nat.lt_succ_self j, q⟩]
      · rw [stM_j e2, h2 i hi]
        have : (i < j ∧ evb W (up c k a) k a i = true) ↔ (i < j + 1 ∧ evb W (up c k a) k a i = true) := ⟨fun z => ⟨by omega, z.2⟩, fun z => ⟨by omega, z.2⟩⟩
        simp only [this]
    · rw [if_neg q]
      refine ih _ ⟨h1, fun i hi => ?_, h3, h4⟩
      rw [h2 i hi]
      by_cases e2 : i = j
      · rw [e2, if_neg (fun z => absurd z.1 (Nat.lt_irrefl j)), if_neg (fun z => q z.2)]
      · have : (i < j ∧ evb W (up c k a) k a i = true) ↔ (i < j + 1 ∧ evb W (up c k a) k a i = true) := ⟨fun z => ⟨by omega, z.2⟩, fun z => ⟨by omega, z.2⟩⟩
        simp only [this]
  · obtain ⟨h1, h2, h3, h4⟩ := hI
    refine S45_112 hκ hp hk hn ((h1 _ _ (by omega)).trans hc) (by omega) (fun z => absurd z (Nat.lt_irrefl _)) (fun _ => K M' h1 h2 h3 (fun i hi hne => ?_))
    unfold evi at hne ⊢
    by_cases q : i < n ∧ evb W (up c k a) k a i = true
    · rw [if_pos q] at hne
      exact absurd rfl hne
    · rw [if_neg q] at hne ⊢
      exact h4 i hi hne
  · rw [stM_n (by omega), stM_n (by omega), stM_n (by omega)]
  · rw [if_neg (fun z => absurd z.1 (Nat.not_lt_zero i)), stM_o (by omega), stM_o (by omega)]
    by_cases e : i = k
    · rw [e, stM_s, up_s]
    · rw [stM_j e, up_o e]
      exact hcy i hi
  · rw [stM_o (by omega)]
    by_cases e : i = k
    · rw [e, stM_s, up_s]
    · rw [stM_j e, up_o e, stM_o (by omega)]
      exact hhd i hi
  · by_cases e : i = k
    · rw [e, stM_s, up_s]
    · rw [up_o e] at hne ⊢
      rw [stM_j e, stM_o (by omega), stM_o (by omega)]
      exact hR i hi hne
theorem f45 (hκ : Rd κ) {B : Nat} (hp : isPl p) (hk : k < n) (hn : n ≤ 10) (hB : B ≤ 40000) (hii : ii ≤ 80) (hi0 : 1 ≤ ii) (hc : M 113 0 = nI n) (hal : M 113 2 = nI (U false)) (hpo : M 113 3 = nI (U true)) (hU : ∀ b, U b ≤ 10) (hPt : ∀ k, k < n → M 114 k = bI (Pt k)) (hW : CW M n W) (hr : Wrg n W) (hP : ∀ i, i < n → M 123 i = P i) (hcy : ∀ i, i < n → M (p + 3) i = c i) (hhd : ∀ i, i < n → M 124 i = hd i) (hR : LRw M n (nI ii) c) (hcB : ∀ i, i < n → cyB B (c i))
    (K : ∀ M', (∀ o x, ¬ (o = p + 3 ∨ o = 124 ∨ o = 125) → M' o x = M o x) → (∀ i, i < n → M' (p + 3) i = msC n W P Pt U ii c hd k i) → (∀ i, i < n → M' 124 i = up hd k (msA n W Pt U ii c hd k) i) → LRw M' n (nI ii) (msC n W P Pt U ii c hd k) → Q (.inl none, M', κ)) :
    RT 45 (0, entL 45 [.ref 122, .ref 113, .ref p, .int (nI k), .int (nI ii)], [], M, κ) Q := by
  have hr2 := pl_rng hp
  have he := erl_rng (k := k) hr hk (by omega) hcB
  have hcl := clampI he.1
  have hA : msA n W Pt U ii c hd k = if ffN n Pt U c ii k (erl W c k n).toNatClampNeg < (erl W c k n).toNatClampNeg + ii then nI (ffN n Pt U c ii k (erl W c k n).toNatClampNeg) else if hd k = -1 then erl W c k n else if hd k < erl W c k n then erl W c k n else hd k + 1 := rfl
  have hC : msC n W P Pt U ii c hd k = evi n W (up (if ffN n Pt U c ii k (erl W c k n).toNatClampNeg < (erl W c k n).toNatClampNeg + ii then c else drF n P Pt c (nI ii) k (rm (msA n W Pt U ii c hd k) (nI ii))) k (msA n W Pt U ii c hd k)) k (msA n W Pt U ii c hd k) := rfl
  have hff := srN_ge (fun a => decide (crw Pt c (nI ii) k (rm (nI a) (nI ii)) n < U (Pt k))) ii (erl W c k n).toNatClampNeg
  have hf1 : (erl W c k n).toNatClampNeg ≤ ffN n Pt U c ii k (erl W c k n).toNatClampNeg ∧ ffN n Pt U c ii k (erl W c k n).toNatClampNeg ≤ (erl W c k n).toNatClampNeg + ii := hff
  refine S45_0 (r_6 := (erl W c k n).toNatClampNeg) (r_19 := if ffN n Pt U c ii k (erl W c k n).toNatClampNeg < (erl W c k n).toNatClampNeg + ii then nI (ffN n Pt U c ii k (erl W c k n).toNatClampNeg) else -1) hκ hp hk hn hc (by omega) ?_ ?_ (fun h => ?_) (fun h => ?_)
  · rw [nI_ofI he.1]
    exact c28 hκ (pl_ar hp 3 (by decide)) hk hn hc hW hr hcy
  · exact c46 hκ hp hk hn (by omega) (by omega) hi0 hc hal hpo hU hPt hcy hR
  · have hno : ¬ ffN n Pt U c ii k (erl W c k n).toNatClampNeg < (erl W c k n).toNatClampNeg + ii := fun z => by
      rw [if_pos z] at h
      exact nI_m1 (by omega) h
    rw [if_neg hno] at hA hC
    rw [nI_ofI he.1, hhd k hk, ← hA]
    have hrm : rmF (msA n W Pt U ii c hd k) (nI ii) = rm (msA n W Pt U ii c hd k) (nI ii) := if_pos (by rw [ltI, nI_toInt (by omega), c0]; omega)
    rw [hrm]
    refine RT_of (c47 hκ hp hk hn hc hPt hcy hP hR) ⟨none, _, κ, rfl, ?_⟩
    rw [hC] at K
    generalize msA n W Pt U ii c hd k = a at K ⊢
    have hgo : ∀ M1, (∀ o x, ¬ (o = p + 3) → M1 o x = M o x) → (∀ i, i < n → M1 (p + 3) i = drF n P Pt c (nI ii) k (rm a (nI ii)) i) → RT 45 (80, [.ref 122, .ref 113, .ref p, .int (nI k), .int (nI ii), .int (erl W c k n), .int a, UU, UU], [], M1, κ) Q := by
      intro M1 g1 g2
      refine w_weak (lle_s (lle_s (lle_s (lle_s (lle_s (lle_u (lle_s (lle_u (lle_u lle_n))))))))) (S45_80 hκ hp hk hn ((g1 _ _ (by omega)).trans hc) (by omega) ?_)
      refine l45 hκ hp hk hn ((g1 _ _ (by omega)).trans hc) hi0 (by omega) (fun i j hi hj => (g1 _ _ (by omega)).trans (hW i j hi hj)) hr g2 (fun i hi => (g1 _ _ (by omega)).trans (hhd i hi)) (fun i hi hne => ?_) (fun M' k1 k2 k3 k4 => K M' (fun o x h => (k1 o x h).trans (g1 o x (by omega))) k2 k3 k4)
      rw [g1 _ _ (by omega)]
      have hdr : drF n P Pt c (nI ii) k (rm a (nI ii)) i = c i := by
        unfold drF at hne ⊢
        cases q : wst P Pt c (nI ii) k (rm a (nI ii)) n with
        | none => rfl
        | some b =>
          rw [q] at hne
          have hne : ¬ up c b (-1) i = -1 := hne
          show up c b (-1) i = c i
          by_cases e : i = b
          · rw [e, up_s] at hne
            exact absurd rfl hne
          · exact up_o e
      rw [hdr] at hne ⊢
      exact hR i hi hne
    cases q : wst P Pt c (nI ii) k (rm a (nI ii)) n with
    | none =>
      refine hgo M (fun _ _ _ => rfl) (fun i hi => ?_)
      rw [hcy i hi, drF, q]
    | some b =>
      refine hgo _ (fun o x h => stM_o h) (fun i hi => ?_)
      rw [drF, q]
      show stM M (p + 3) b (-1) (p + 3) i = up c b (-1) i
      by_cases e : i = b
      · rw [e, stM_s, up_s]
      · rw [stM_j e, up_o e]
        exact hcy i hi
  · have hyes : ffN n Pt U c ii k (erl W c k n).toNatClampNeg < (erl W c k n).toNatClampNeg + ii := Classical.byContradiction (fun z => h (if_neg z))
    rw [if_pos hyes] at hA hC ⊢
    rw [← hA]
    rw [hC] at K
    exact l45 hκ hp hk hn hc hi0 (by omega) hW hr hcy hhd hR K
theorem mits_stay {m : Nat} (h : nx P (mits n W P Pt U ii m).1 n = none) (d : Nat) : mits n W P Pt U ii (m + d) = mits n W P Pt U ii m := by
  induction d with
  | zero => rfl
  | succ d ih =>
    rw [← Nat.add_assoc, mits, ih, mst, h]
def gst (c : Nat → Int32) (ii : Int32) (n : Nat) : Int32 := fo (fun k m => mx m (dvF (c k) ii)) 0 n
theorem fo_suc {α : Type} {f : Nat → α → α} {a : α} {m : Nat} : fo f a (m + 1) = f m (fo f a m) := rfl
theorem c40 (hκ : Rd κ) {i2 : Int32} (hp : isPl p) (hn : n ≤ 10) (hc : M 113 0 = nI n) (hcy : ∀ i, i < n → M (p + 3) i = c i) : Run 40 (0, entL 40 [.ref 113, .ref p, .int i2], [], M, κ) (.inl (some (.int (gst c i2 n))), M, κ) := by
  refine RT_run (S40_0 (k := 0) hκ hp (by omega) hn hc ?_)
  refine loopF (n := n) (fun k m => RT 40 (5, [.ref 113, .ref p, .int i2, .int m, .int (nI k)], [], M, κ) _) (fun k m => mx m (dvF (c k) i2)) 0 (fun k m hk K => ?_) ?_
  · refine S40_5 hκ hp (by omega) hn hc (fun _ => ?_) (fun z => absurd hk z)
    rw [hcy k hk]
    exact K
  · exact S40_5 hκ hp (Nat.le_refl _) hn hc (fun z => absurd z (Nat.lt_irrefl _)) (fun _ => rfl)
/-- does it go -/
def goF (n : Nat) (P c : Nat → Int32) (ii : Int32) : Bool := if nx P c n = none then (if 15 < gst c ii n then false else true) else false
theorem f43 (hκ : Rd κ) {b : Bool} {Φ : (Nat → Int32) → Prop} (hp : isPl p) (hn : n ≤ 10) (hii : ii ≤ 80) (hi0 : 1 ≤ ii) (hc : M0 113 0 = nI n) (hal : M0 113 2 = nI (U false)) (hpo : M0 113 3 = nI (U true)) (hU : ∀ b, U b ≤ 10) (hPt : ∀ k, k < n → M0 114 k = bI (Pt k)) (hr : Wrg n W)
    (h42 : ∀ Q' : Ou → Prop, (∀ M1, (∀ o x, ¬ (o = 118 ∨ o = 123) → M1 o x = M0 o x) → CW M1 n W → (b = true → Φ (M1 123)) → Q' (.inl (some (.int (bI b))), M1, κ)) → RT 42 (0, entL 42 [.ref 122, .ref 113, .int (nI ii)], [], M0, κ) Q')
    (K0 : b = false → ∀ M1, (∀ o x, ¬ (o = 118 ∨ o = 123) → M1 o x = M0 o x) → Q (.inl (some (.int 0)), M1, κ))
    (K1 : b = true → ∀ M1 P, (∀ o x, ¬ (o = 118 ∨ o = 123 ∨ o = 124 ∨ o = 125 ∨ o = p + 3) → M1 o x = M0 o x) → Φ P → (∀ i, i < n → M1 (p + 3) i = (mits n W P Pt U ii (6 * n)).1 i) → Q (.inl (some (.int (bI (goF n P (mits n W P Pt U ii (6 * n)).1 (nI ii))))), M1, κ)) :
    RT 43 (0, entL 43 [.ref 122, .ref 113, .ref p, .int (nI ii)], [], M0, κ) Q := by
  have hr2 := pl_rng hp
  refine S43_0 hκ hp (by omega) (h42 _ (fun M1 f1 hW hΦ => ⟨_, M1, κ, rfl, ?_⟩))
  refine S43_6 hκ hp (by omega) (fun h => ?_) (fun h => ?_)
  · have e1 : ∀ o x, ¬ (o = p + 3 ∨ o = 124 ∨ o = 125) → M1 o x = M1 o x := fun _ _ _ => rfl
    have hΦ' := hΦ h
    -- first all are without a cycle
    refine loopI (n := n) (fun k M => RT 43 (14, [.ref 122, .ref 113, .ref p, .int (nI ii), .int (nI k), UU], [], M, κ) Q) (fun k M => (∀ o x, ¬ (o = p + 3 ∨ o = 124) → M o x = M1 o x) ∧ ∀ i, i < k → M (p + 3) i = -1 ∧ M 124 i = -1) (fun k M hk hI ih => ?_) (fun M hI => ?_) 0 M1 (Nat.zero_le _) ⟨fun _ _ _ => rfl, fun i hi => absurd hi (Nat.not_lt_zero i)⟩
    · obtain ⟨g1, g2⟩ := hI
      refine S43_14 hκ hp (by omega) hn ((g1 _ _ (by omega)).trans ((f1 _ _ (by omega)).trans hc)) (by omega) (fun _ => ih _ ⟨fun o x h => ?_, fun i hi => ?_⟩) (fun z => absurd hk z)
      · rw [stM_n (by omega), stM_n (by omega)]
        exact g1 o x h
      · by_cases e : i = k
        · rw [e]
          exact ⟨(stM_o (by omega)).trans stM_s, stM_s⟩
        · have := g2 i (by omega)
          exact ⟨(stM_o (by omega)).trans ((stM_j e).trans this.1), (stM_j e).trans ((stM_o (by omega)).trans this.2)⟩
    · obtain ⟨g1, g2⟩ := hI
      refine S43_14 hκ hp (Nat.le_refl _) hn ((g1 _ _ (by omega)).trans ((f1 _ _ (by omega)).trans hc)) (by omega) (fun z => absurd z (Nat.lt_irrefl _)) (fun _ => ?_)
      -- the steps
      have fin : ∀ s M', s ≤ 6 * n → (∀ o x, ¬ (o = p + 3 ∨ o = 124 ∨ o = 125) → M' o x = M1 o x) → (∀ i, i < n → M' (p + 3) i = (mits n W (M1 123) Pt U ii s).1 i) → (s = 6 * n ∨ nx (M1 123) (mits n W (M1 123) Pt U ii s).1 n = none) → Q (.inl (some (.int (bI (goF n (M1 123) (mits n W (M1 123) Pt U ii s).1 (nI ii))))), M', κ) := by
        intro s M' hs k1 k2 k3
        have e6 : mits n W (M1 123) Pt U ii (6 * n) = mits n W (M1 123) Pt U ii s := by
          rcases k3 with k3 | k3
          · rw [k3]
          · have := mits_stay k3 (6 * n - s)
            rw [Nat.add_sub_cancel' hs] at this
            exact this
        have := K1 h M' (M1 123) (fun o x h => (k1 o x (by omega)).trans (f1 o x (by omega))) hΦ' (by rw [e6]; exact k2)
        rw [e6] at this
        exact this
      refine loopI (n := 6 * n) (fun s M' => RT 43 (48, [.ref 122, .ref 113, .ref p, .int (nI ii), .int (nI s), UU], [], M', κ) Q) (fun s M' => (∀ o x, ¬ (o = p + 3 ∨ o = 124 ∨ o = 125) → M' o x = M1 o x) ∧ (∀ i, i < n → M' (p + 3) i = (mits n W (M1 123) Pt U ii s).1 i) ∧ (∀ i, i < n → M' 124 i = (mits n W (M1 123) Pt U ii s).2 i) ∧ LRw M' n (nI ii) (mits n W (M1 123) Pt U ii s).1) (fun s M' hs hJ ih => ?_) (fun M' hJ => ?_) 0 M (Nat.zero_le _) ⟨fun o x h => g1 o x (by omega), fun i hi => (g2 i hi).1, fun i hi => (g2 i hi).2, fun i hi hne => absurd rfl hne⟩
      · obtain ⟨k1, k2, k3, k4⟩ := hJ
        have hrg := mits_rng (P := M1 123) (Pt := Pt) (U := U) hr hii s (by omega)
        have hc1 : M' 113 0 = nI n := (k1 _ _ (by omega)).trans ((f1 _ _ (by omega)).trans hc)
        have r44 := c44 (P := M1 123) hκ hp hn hc1 k2 (fun i hi => k1 _ _ (by omega))
        cases q : nx (M1 123) (mits n W (M1 123) Pt U ii s).1 n with
        | none =>
          rw [q] at r44
          refine S43_48 (r_63 := -1) (r_95 := -1) (r_105 := gst (mits n W (M1 123) Pt U ii s).1 (nI ii) n) hκ hp (by omega) hn hc1 (by omega) (fun _ => r44) (fun _ _ => c40 hκ hp hn hc1 k2) (fun _ => r44) (fun _ => ?_) (fun _ z => absurd rfl z)
          have := fin s M' (by omega) k1 k2 (.inr q)
          rw [goF, if_pos q] at this
          rw [if_pos rfl]
          exact this
        | some b =>
          rw [q] at r44
          have hb := nx_lt n b q
          have hbm : ¬ nI b = -1 := nI_m1 (by omega)
          refine S43_48 (r_63 := nI b) (r_95 := nI b) (r_105 := 0) hκ hp (by omega) hn hc1 (by omega) (fun _ => r44) (fun _ z => absurd z hbm) (fun _ => r44) (fun z => ?_) (fun _ _ => ?_)
          · exfalso
            rcases z with z | z
            · exact hbm z.2
            · exact z hs
          · refine f45 (P := M1 123) (c := (mits n W (M1 123) Pt U ii s).1) (hd := (mits n W (M1 123) Pt U ii s).2) (U := U) (Pt := Pt) (W := W) (B := 100 * s) hκ hp hb.1 hn (by omega) hii hi0 hc1 ((k1 _ _ (by omega)).trans ((f1 _ _ (by omega)).trans hal)) ((k1 _ _ (by omega)).trans ((f1 _ _ (by omega)).trans hpo)) hU (fun k hk => (k1 _ _ (by omega)).trans ((f1 _ _ (by omega)).trans (hPt k hk))) (fun i j hi hj => (k1 _ _ (by omega)).trans (hW i j hi hj)) hr (fun i hi => k1 _ _ (by omega)) k2 k3 k4 hrg.1 ?_
            intro M2 j1 j2 j3 j4
            refine ⟨none, M2, κ, rfl, ?_⟩
            have est : mits n W (M1 123) Pt U ii (s + 1) = (msC n W (M1 123) Pt U ii (mits n W (M1 123) Pt U ii s).1 (mits n W (M1 123) Pt U ii s).2 b, up (mits n W (M1 123) Pt U ii s).2 b (msA n W Pt U ii (mits n W (M1 123) Pt U ii s).1 (mits n W (M1 123) Pt U ii s).2 b)) := by
              rw [mits, mst, q]
            refine w_weak (lle_s (lle_s (lle_s (lle_s (lle_s (lle_u lle_n)))))) (S43_86 hκ hp (by omega) hn ((j1 _ _ (by omega)).trans hc1) (by omega) (ih M2 ⟨fun o x h => (j1 o x h).trans (k1 o x h), ?_, ?_, ?_⟩))
            · rw [est]; exact j2
            · rw [est]; exact j3
            · rw [est]; exact j4
      · obtain ⟨k1, k2, k3, k4⟩ := hJ
        have hc1 : M' 113 0 = nI n := (k1 _ _ (by omega)).trans ((f1 _ _ (by omega)).trans hc)
        have r44 := c44 (P := M1 123) hκ hp hn hc1 k2 (fun i hi => k1 _ _ (by omega))
        have := fin (6 * n) M' (Nat.le_refl _) k1 k2 (.inl rfl)
        refine S43_48 (r_63 := 0) (r_95 := eo (nx (M1 123) (mits n W (M1 123) Pt U ii (6 * n)).1 n)) (r_105 := gst (mits n W (M1 123) Pt U ii (6 * n)).1 (nI ii) n) hκ hp (Nat.le_refl _) hn hc1 (by omega) (fun _ => r44) (fun _ _ => c40 hκ hp hn hc1 k2) (fun z => absurd z (Nat.lt_irrefl _)) (fun _ => ?_) (fun z => absurd z (Nat.lt_irrefl _))
        unfold goF at this
        cases q : nx (M1 123) (mits n W (M1 123) Pt U ii (6 * n)).1 n with
        | none =>
          rw [q, if_pos rfl] at this
          rw [if_pos (show eo none = -1 from rfl)]
          exact this
        | some b =>
          rw [q, if_neg (Option.some_ne_none b)] at this
          have hb := nx_lt n b q
          rw [if_neg (show ¬ eo (some b) = -1 from nI_m1 (by omega))]
          exact this
  · exact K0 (Bool.eq_false_iff.mpr h) M1 f1
end MC
end P_33_try
