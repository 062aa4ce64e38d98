/-! PRIORITIES: the class finds them -/
section P_38_prior
theorem i_42_0 : ins 42 0 = some (.aload_n 1, 1, 1, 0, 0, 0) := rfl
theorem i_42_1 : ins 42 1 = some (.iload_n 2, 2, 2, 0, 0, 0) := rfl
theorem i_42_2 : ins 42 2 = some (.bipush 64, 4, 0, 0, 0, 64) := rfl
theorem i_42_4 : ins 42 4 = some (.invokevirtual 97, 7, 25, 0, 3, 0) := rfl
theorem S42_0 {Q : Ou → Prop} {M : Mem} {κ : Kp} (hκ : Rd κ)  {ii : Nat} (b_ii : ii ≤ 100000)
    (k1 : RT 25 (0, entL 25 [.ref 113, .int (nI ii), .int 64], [], M, κ) (fun o => ∃ v M1 κ1, o = (.inl v, M1, κ1) ∧ RT 42 (7, [.ref 122, .ref 113, .int (nI ii), UU, UU, UU, UU], v.toList ++ [], M1, κ1) Q))
    : RT 42 (0, [.ref 122, .ref 113, .int (nI ii), UU, UU, UU, UU], [], M, κ) Q := by
  refine w_load i_42_0 rfl rfl ?_
  refine w_load i_42_1 rfl rfl ?_
  refine w_push i_42_2 rfl ?_
  exact w_callVI (i := _) i_42_4 ⟨by decide, by decide, by decide, rfl⟩ hκ (⟨rfl, by decide⟩ : isOb 113 1) (av := [.int (nI ii), .int 64]) (rest := []) rfl rfl (Nat.le_of_ble_eq_true rfl) (k1)
theorem i_42_7 : ins 42 7 = some (.iconst 0, 8, 0, 0, 0, 0) := rfl
theorem i_42_8 : ins 42 8 = some (.istore_n 3, 9, 3, 0, 0, 0) := rfl
theorem S42_7 {Q : Ou → Prop} {M : Mem} {κ : Kp} (hκ : Rd κ) {n : Nat} (hn : n ≤ 10) (hc : M 113 0 = nI n) 
    (k1 : RT 42 (9, [.ref 122, .ref 113, UU, .int (nI 0), UU, UU, UU], [], M, κ) Q)
    : RT 42 (7, [.ref 122, .ref 113, UU, UU, UU, UU, UU], [], M, κ) Q := by
  refine w_push i_42_7 rfl ?_
  refine w_store (l1 := [.ref 122, .ref 113, UU, .int 0, UU, UU, UU]) i_42_8 rfl (Nat.le_of_ble_eq_true rfl) rfl ?_
  exact (k1)
theorem i_42_9 : ins 42 9 = some (.iload_n 3, 10, 3, 0, 0, 0) := rfl
theorem i_42_10 : ins 42 10 = some (.aload_n 1, 11, 1, 0, 0, 0) := rfl
theorem i_42_11 : ins 42 11 = some (.getfield 37, 14, 1, 0, 0, 0) := rfl
theorem i_42_14 : ins 42 14 = some (.if_icmp .ge 16, 17, 30, 0, 0, 0) := rfl
theorem i_42_17 : ins 42 17 = some (.aload_n 0, 18, 0, 0, 0, 0) := rfl
theorem i_42_18 : ins 42 18 = some (.getfield 9, 21, 3, 0, 0, 0) := rfl
theorem i_42_21 : ins 42 21 = some (.iload_n 3, 22, 3, 0, 0, 0) := rfl
theorem i_42_22 : ins 42 22 = some (.iconst 0, 23, 0, 0, 0, 0) := rfl
theorem i_42_23 : ins 42 23 = some (.iastore, 24, 0, 0, 0, 0) := rfl
theorem i_42_24 : ins 42 24 = some (.iinc 3 1, 27, 3, 0, 0, 1) := rfl
theorem i_42_27 : ins 42 27 = some (.goto (-18), 30, 9, 0, 0, 0) := rfl
theorem i_42_30 : ins 42 30 = some (.iconst 0, 31, 0, 0, 0, 0) := rfl
theorem i_42_31 : ins 42 31 = some (.istore_n 3, 32, 3, 0, 0, 0) := rfl
theorem S42_9 {Q : Ou → Prop} {M : Mem} {κ : Kp} (hκ : Rd κ) {n k : Nat} (hn : n ≤ 10) (hk : k ≤ n) (hc : M 113 0 = nI n) 
    (k1 : k < n → RT 42 (9, [.ref 122, .ref 113, UU, .int (nI (k + 1)), UU, UU, UU], [], (stM M 123 k 0), κ) Q)
    (k2 : ¬ (k < n) → RT 42 (32, [.ref 122, .ref 113, UU, .int (nI 0), UU, UU, UU], [], M, κ) Q)
    : RT 42 (9, [.ref 122, .ref 113, UU, .int (nI k), UU, UU, UU], [], M, κ) Q := by
  refine w_load i_42_9 rfl rfl ?_
  refine w_load i_42_10 rfl rfl ?_
  refine w_getI (v := (nI n)) i_42_11 hκ (⟨rfl, by decide⟩ : isOb 113 1) rfl (hc) ?_
  refine w_if2n (k < n) i_42_14 (cN_ge (a := k) (b := n) (by omega) (by omega)) ?_ ?_
  · intro h1
    refine w_load i_42_17 rfl rfl ?_
    refine w_getR 123 i_42_18 hκ (⟨rfl, by decide⟩ : isOb 122 3) rfl rfl ?_
    refine w_load i_42_21 rfl rfl ?_
    refine w_push i_42_22 rfl ?_
    refine w_iastN (e := k) i_42_23 hκ (⟨rfl, rfl, by decide⟩ : isAr 123 10) (by omega) (by decide) ?_
    refine w_iincN (n := k) (l1 := [.ref 122, .ref 113, UU, .int (nI (k + 1)), UU, UU, UU]) 1 i_42_24 rfl rfl ?_
    refine w_goto i_42_27 ?_
    exact (k1 h1)
  · intro h2
    refine w_push i_42_30 rfl ?_
    refine w_store (l1 := [.ref 122, .ref 113, UU, .int 0, UU, UU, UU]) i_42_31 rfl (Nat.le_of_ble_eq_true rfl) rfl ?_
    exact (k2 h2)
theorem i_42_32 : ins 42 32 = some (.iload_n 3, 33, 3, 0, 0, 0) := rfl
theorem i_42_33 : ins 42 33 = some (.aload_n 1, 34, 1, 0, 0, 0) := rfl
theorem i_42_34 : ins 42 34 = some (.getfield 37, 37, 1, 0, 0, 0) := rfl
theorem i_42_37 : ins 42 37 = some (.if_icmp .gt 94, 40, 131, 0, 0, 0) := rfl
theorem i_42_40 : ins 42 40 = some (.iconst 0, 41, 0, 0, 0, 0) := rfl
theorem i_42_41 : ins 42 41 = some (.istore 4, 43, 4, 0, 0, 0) := rfl
theorem i_42_43 : ins 42 43 = some (.aload_n 1, 44, 1, 0, 0, 0) := rfl
theorem i_42_44 : ins 42 44 = some (.getfield 37, 47, 1, 0, 0, 0) := rfl
theorem i_42_47 : ins 42 47 = some (.iconst 1, 48, 0, 0, 0, 1) := rfl
theorem i_42_48 : ins 42 48 = some (.isub, 49, 0, 0, 0, 0) := rfl
theorem i_42_49 : ins 42 49 = some (.istore 5, 51, 5, 0, 0, 0) := rfl
theorem i_42_131 : ins 42 131 = some (.iconst 0, 132, 0, 0, 0, 0) := rfl
theorem i_42_132 : ins 42 132 = some (.ireturn, 133, 0, 0, 0, 0) := rfl
theorem S42_32 {Q : Ou → Prop} {M : Mem} {κ : Kp} (hκ : Rd κ) {n r : Nat} (hn : n ≤ 10) (hr : r ≤ n + 1) (hc : M 113 0 = nI n) 
    (k1 : n < r → Q (.inl (some (.int 0)), M, κ))
    (k2 : ¬ (n < r) → RT 42 (51, [.ref 122, .ref 113, UU, .int (nI r), .int 0, .int ((nI n) - 1), UU], [], M, κ) Q)
    : RT 42 (32, [.ref 122, .ref 113, UU, .int (nI r), UU, UU, UU], [], M, κ) Q := by
  refine w_load i_42_32 rfl rfl ?_
  refine w_load i_42_33 rfl rfl ?_
  refine w_getI (v := (nI n)) i_42_34 hκ (⟨rfl, by decide⟩ : isOb 113 1) rfl (hc) ?_
  refine w_if2 (n < r) i_42_37 (cN_gt (a := r) (b := n) (by omega) (by omega)) ?_ ?_
  · intro h1
    refine w_push i_42_131 rfl ?_
    exact w_iret i_42_132 (.inr ⟨rfl, rfl⟩) (k1 h1)
  · intro h2
    refine w_push i_42_40 rfl ?_
    refine w_store (l1 := [.ref 122, .ref 113, UU, .int (nI r), .int 0, UU, UU]) i_42_41 rfl (Nat.le_of_ble_eq_true rfl) rfl ?_
    refine w_load i_42_43 rfl rfl ?_
    refine w_getI (v := (nI n)) i_42_44 hκ (⟨rfl, by decide⟩ : isOb 113 1) rfl (hc) ?_
    refine w_push i_42_47 rfl ?_
    refine w_bin (w := ((nI n) - 1)) i_42_48 rfl rfl ?_
    refine w_store (l1 := [.ref 122, .ref 113, UU, .int (nI r), .int 0, .int ((nI n) - 1), UU]) i_42_49 rfl (Nat.le_of_ble_eq_true rfl) rfl ?_
    exact (k2 h2)
theorem i_42_51 : ins 42 51 = some (.iload 5, 53, 5, 0, 0, 0) := rfl
theorem i_42_53 : ins 42 53 = some (.ifCond .lt 65, 56, 118, 0, 0, 0) := rfl
theorem i_42_56 : ins 42 56 = some (.aload_n 1, 57, 1, 0, 0, 0) := rfl
theorem i_42_57 : ins 42 57 = some (.iload 5, 59, 5, 0, 0, 0) := rfl
theorem i_42_59 : ins 42 59 = some (.aload_n 0, 60, 0, 0, 0, 0) := rfl
theorem i_42_60 : ins 42 60 = some (.getfield 9, 63, 3, 0, 0, 0) := rfl
theorem i_42_63 : ins 42 63 = some (.iconst 0, 64, 0, 0, 0, 0) := rfl
theorem i_42_64 : ins 42 64 = some (.invokevirtual 101, 67, 27, 0, 4, 0) := rfl
theorem i_42_67 : ins 42 67 = some (.istore 6, 69, 6, 0, 0, 0) := rfl
theorem i_42_69 : ins 42 69 = some (.iload 4, 71, 4, 0, 0, 0) := rfl
theorem i_42_71 : ins 42 71 = some (.ifCond .ne 15, 74, 86, 0, 0, 0) := rfl
theorem i_42_74 : ins 42 74 = some (.iload 6, 76, 6, 0, 0, 0) := rfl
theorem i_42_76 : ins 42 76 = some (.aload_n 0, 77, 0, 0, 0, 0) := rfl
theorem i_42_77 : ins 42 77 = some (.getfield 9, 80, 3, 0, 0, 0) := rfl
theorem i_42_80 : ins 42 80 = some (.iload 5, 82, 5, 0, 0, 0) := rfl
theorem i_42_82 : ins 42 82 = some (.iaload, 83, 0, 0, 0, 0) := rfl
theorem i_42_83 : ins 42 83 = some (.if_icmp .le 7, 86, 90, 0, 0, 0) := rfl
theorem i_42_86 : ins 42 86 = some (.iconst 1, 87, 0, 0, 0, 1) := rfl
theorem i_42_87 : ins 42 87 = some (.goto 4, 90, 91, 0, 0, 0) := rfl
theorem i_42_90 : ins 42 90 = some (.iconst 0, 91, 0, 0, 0, 0) := rfl
theorem i_42_91 : ins 42 91 = some (.istore 4, 93, 4, 0, 0, 0) := rfl
theorem i_42_93 : ins 42 93 = some (.aload_n 0, 94, 0, 0, 0, 0) := rfl
theorem i_42_94 : ins 42 94 = some (.getfield 9, 97, 3, 0, 0, 0) := rfl
theorem i_42_97 : ins 42 97 = some (.iload 5, 99, 5, 0, 0, 0) := rfl
theorem i_42_99 : ins 42 99 = some (.aload_n 0, 100, 0, 0, 0, 0) := rfl
theorem i_42_100 : ins 42 100 = some (.getfield 9, 103, 3, 0, 0, 0) := rfl
theorem i_42_103 : ins 42 103 = some (.iload 5, 105, 5, 0, 0, 0) := rfl
theorem i_42_105 : ins 42 105 = some (.iaload, 106, 0, 0, 0, 0) := rfl
theorem i_42_106 : ins 42 106 = some (.iload 6, 108, 6, 0, 0, 0) := rfl
theorem i_42_108 : ins 42 108 = some (.invokestatic 78, 111, 164, 1, 2, 0) := rfl
theorem i_42_111 : ins 42 111 = some (.iastore, 112, 0, 0, 0, 0) := rfl
theorem i_42_112 : ins 42 112 = some (.iinc 5 (-1), 115, 5, 0, 0, (-1)) := rfl
theorem i_42_115 : ins 42 115 = some (.goto (-64), 118, 51, 0, 0, 0) := rfl
theorem i_42_118 : ins 42 118 = some (.iload 4, 120, 4, 0, 0, 0) := rfl
theorem i_42_120 : ins 42 120 = some (.ifCond .ne 5, 123, 125, 0, 0, 0) := rfl
theorem i_42_123 : ins 42 123 = some (.iconst 1, 124, 0, 0, 0, 1) := rfl
theorem i_42_124 : ins 42 124 = some (.ireturn, 125, 0, 0, 0, 0) := rfl
theorem i_42_125 : ins 42 125 = some (.iinc 3 1, 128, 3, 0, 0, 1) := rfl
theorem i_42_128 : ins 42 128 = some (.goto (-96), 131, 32, 0, 0, 0) := rfl
theorem S42_51 {Q : Ou → Prop} {M : Mem} {κ : Kp} (hκ : Rd κ) {n k r : Nat} (hn : n ≤ 10) (hk : k < n) (hr : r ≤ n) (hc : M 113 0 = nI n) {ri : Bool} {r_64 : Int32}
    (o1 : ¬ (k < 0) → Run 27 (0, entL 27 [.ref 113, .int (nI k), .ref 123, .int 0], [], M, κ) (.inl (some (.int r_64)), M, κ))
    (k1 : k < 0 → ri = true → RT 42 (32, [.ref 122, .ref 113, UU, .int (nI (r + 1)), UU, UU, UU], [], M, κ) Q)
    (k2 : k < 0 → ¬ (ri = true) → Q (.inl (some (.int 1)), M, κ))
    (k3 : ¬ (k < 0) → RT 42 (51, [.ref 122, .ref 113, UU, .int (nI r), .int (bI (if ri = true then true else (if (M 123 k) < r_64 then true else false))), .int ((nI k) + (-1)), UU], [], (stM M 123 k (mx (M 123 k) r_64)), κ) Q)
    : RT 42 (51, [.ref 122, .ref 113, UU, .int (nI r), .int (bI ri), .int (nI k), UU], [], M, κ) Q := by
  refine w_load i_42_51 rfl rfl ?_
  refine w_if0 (k < 0) i_42_53 (cZ_lt (a := k) (by omega) (by decide)) ?_ ?_
  · intro h1
    refine w_load i_42_118 rfl rfl ?_
    refine w_if0 (ri = true) i_42_120 cB_ne ?_ ?_
    · intro h2
      refine w_iincN (n := r) (l1 := [.ref 122, .ref 113, UU, .int (nI (r + 1)), .int (bI ri), .int (nI k), UU]) 1 i_42_125 rfl rfl ?_
      refine w_goto i_42_128 ?_
      exact w_weak (lle_s (lle_s (lle_s (lle_s (lle_u (lle_u (lle_s lle_n))))))) (k1 h1 h2)
    · intro h3
      refine w_push i_42_123 rfl ?_
      exact w_iret i_42_124 (.inr ⟨rfl, rfl⟩) (k2 h1 h3)
  · intro h4
    refine w_load i_42_56 rfl rfl ?_
    refine w_load i_42_57 rfl rfl ?_
    refine w_load i_42_59 rfl rfl ?_
    refine w_getR 123 i_42_60 hκ (⟨rfl, by decide⟩ : isOb 122 3) rfl rfl ?_
    refine w_push i_42_63 rfl ?_
    refine w_callV (i := _) i_42_64 ⟨by decide, by decide, by decide, rfl⟩ hκ (⟨rfl, by decide⟩ : isOb 113 1) (av := [.int (nI k), .ref 123, .int 0]) (rest := []) rfl rfl (Nat.le_of_ble_eq_true rfl) (v := some (.int r_64)) (o1 h4) ?_
    refine w_store (l1 := [.ref 122, .ref 113, UU, .int (nI r), .int (bI ri), .int (nI k), .int r_64]) i_42_67 rfl (Nat.le_of_ble_eq_true rfl) rfl ?_
    refine w_load i_42_69 rfl rfl ?_
    have K5 : RT 42 (91, [.ref 122, .ref 113, UU, .int (nI r), .int (bI ri), .int (nI k), .int r_64], [.int (bI (if ri = true then true else (if (M 123 k) < r_64 then true else false)))], M, κ) Q := by
      refine w_store (l1 := [.ref 122, .ref 113, UU, .int (nI r), .int (bI (if ri = true then true else (if (M 123 k) < r_64 then true else false))), .int (nI k), .int r_64]) i_42_91 rfl (Nat.le_of_ble_eq_true rfl) rfl ?_
      refine w_load i_42_93 rfl rfl ?_
      refine w_getR 123 i_42_94 hκ (⟨rfl, by decide⟩ : isOb 122 3) rfl rfl ?_
      refine w_load i_42_97 rfl rfl ?_
      refine w_load i_42_99 rfl rfl ?_
      refine w_getR 123 i_42_100 hκ (⟨rfl, by decide⟩ : isOb 122 3) rfl rfl ?_
      refine w_load i_42_103 rfl rfl ?_
      refine w_ialdN (e := k) (v := (M 123 k)) i_42_105 hκ (⟨rfl, rfl, by decide⟩ : isAr 123 10) (by omega) (by decide) (rfl) ?_
      refine w_load i_42_106 rfl rfl ?_
      refine w_mmax i_42_108 rfl (by decide) (Nat.le_of_ble_eq_true rfl) ?_
      refine w_iastN (e := k) i_42_111 hκ (⟨rfl, rfl, by decide⟩ : isAr 123 10) (by omega) (by decide) ?_
      refine w_iinc (l1 := [.ref 122, .ref 113, UU, .int (nI r), .int (bI (if ri = true then true else (if (M 123 k) < r_64 then true else false))), .int ((nI k) + (-1)), .int r_64]) i_42_112 rfl rfl ?_
      refine w_goto i_42_115 ?_
      exact w_weak (lle_s (lle_s (lle_s (lle_s (lle_s (lle_s (lle_u lle_n))))))) (k3 h4)
    refine w_if0 (ri = true) i_42_71 cB_ne ?_ ?_
    · intro h6
      refine w_push i_42_86 rfl ?_
      refine w_goto i_42_87 ?_
      exact (by first | exact (K5) | (have K9 := K5; simp only [↓if_pos h6] at K9 ⊢; exact (K9)))
    · intro h7
      refine w_load i_42_74 rfl rfl ?_
      refine w_load i_42_76 rfl rfl ?_
      refine w_getR 123 i_42_77 hκ (⟨rfl, by decide⟩ : isOb 122 3) rfl rfl ?_
      refine w_load i_42_80 rfl rfl ?_
      refine w_ialdN (e := k) (v := (M 123 k)) i_42_82 hκ (⟨rfl, rfl, by decide⟩ : isAr 123 10) (by omega) (by decide) (rfl) ?_
      refine w_if2n ((M 123 k) < r_64) i_42_83 cI_le ?_ ?_
      · intro h8
        refine w_push i_42_86 rfl ?_
        refine w_goto i_42_87 ?_
        exact (by first | exact (K5) | (have K9 := K5; simp only [↓if_neg h7, ↓if_pos h8] at K9 ⊢; exact (K9)))
      · intro h9
        refine w_push i_42_90 rfl ?_
        exact (by first | exact (K5) | (have K9 := K5; simp only [↓if_neg h7, ↓if_neg h9] at K9 ⊢; exact (K9)))
theorem Sm42_51 {Q : Ou → Prop} {M : Mem} {κ : Kp} (hκ : Rd κ) {r : Nat} (hr : r ≤ 100) {ri : Bool}
    (k1 : ri = true → RT 42 (32, [.ref 122, .ref 113, UU, .int (nI (r + 1)), UU, UU, UU], [], M, κ) Q)
    (k2 : ¬ (ri = true) → Q (.inl (some (.int 1)), M, κ))
    : RT 42 (51, [.ref 122, .ref 113, UU, .int (nI r), .int (bI ri), .int (-1), UU], [], M, κ) Q := by
  refine w_load i_42_51 rfl rfl ?_
  refine w_if0 (((-1) : Int32) < 0) i_42_53 cI0_lt ?_ ?_
  · intro h1
    refine w_load i_42_118 rfl rfl ?_
    refine w_if0 (ri = true) i_42_120 cB_ne ?_ ?_
    · intro h2
      refine w_iincN (n := r) (l1 := [.ref 122, .ref 113, UU, .int (nI (r + 1)), .int (bI ri), .int (-1), UU]) 1 i_42_125 rfl rfl ?_
      refine w_goto i_42_128 ?_
      exact w_weak (lle_s (lle_s (lle_s (lle_s (lle_u (lle_u (lle_s lle_n))))))) (k1 h2)
    · intro h3
      refine w_push i_42_123 rfl ?_
      exact w_iret i_42_124 (.inr ⟨rfl, rfl⟩) (k2 h3)
  · intro h4
    exact absurd (by decide) h4
variable {Q : Ou → Prop} {M M0 : Mem} {κ : Kp}
section BF
variable {n : Nat} {W : Nat → Nat → Option Int32} {ii : Nat}
theorem gb_spec {V : Nat → Int32} {k B : Nat} (hr : Wrg n W) (hB : B ≤ 10000) (hk : k < n) (hV : ∀ j, j < n → 0 ≤ (V j).toInt ∧ (V j).toInt ≤ B) : ∀ m, m ≤ n → 0 ≤ (gb W V k 0 m).toInt ∧ (gb W V k 0 m).toInt ≤ B + 8 ∧ (∀ j, j < m → ∀ w, W k j = some w → w.toInt + (V j).toInt ≤ (gb W V k 0 m).toInt) ∧ ∀ X : Int, 0 ≤ X → (∀ j, j < m → ∀ w, W k j = some w → w.toInt + (V j).toInt ≤ X) → (gb W V k 0 m).toInt ≤ X := fun m => by
  induction m with
  | zero =>
    intro _
    have e : (gb W V k 0 0).toInt = 0 := c0
    exact ⟨by omega, by omega, fun j hj => absurd hj (Nat.not_lt_zero j), fun X hX _ => by omega⟩
  | succ m ih =>
    intro hm
    obtain ⟨h1, h2, h3, h4⟩ := ih (by omega)
    have e : gb W V k 0 (m + 1) = ow (W k m) (gb W V k 0 m) (fun w => mx (gb W V k 0 m) (w + V m)) := rfl
    rw [e]
    have hw := hr k m hk (by omega)
    have hv := hV m (by omega)
    cases q : W k m with
    | none =>
      show 0 ≤ (gb W V k 0 m).toInt ∧ (gb W V k 0 m).toInt ≤ B + 8 ∧ (∀ j, j < m + 1 → ∀ w, W k j = some w → w.toInt + (V j).toInt ≤ (gb W V k 0 m).toInt) ∧ ∀ X : Int, 0 ≤ X → (∀ j, j < m + 1 → ∀ w, W k j = some w → w.toInt + (V j).toInt ≤ X) → (gb W V k 0 m).toInt ≤ X
      refine ⟨h1, h2, fun j hj w hw2 => ?_, fun X hX hh => h4 X hX (fun j hj w hw2 => hh j (by omega) w hw2)⟩
      by_cases e2 : j = m
      · rw [e2, q] at hw2
        cases hw2
      · exact h3 j (by omega) w hw2
    | some w =>
      have hw := hw w q
      have ea : (mx (gb W V k 0 m) (w + V m)).toInt = max (gb W V k 0 m).toInt (w.toInt + (V m).toInt) := by
        rw [mx_toInt, l_add (by omega) (by omega)]
      show 0 ≤ (mx (gb W V k 0 m) (w + V m)).toInt ∧ (mx (gb W V k 0 m) (w + V m)).toInt ≤ B + 8 ∧ (∀ j, j < m + 1 → ∀ w', W k j = some w' → w'.toInt + (V j).toInt ≤ (mx (gb W V k 0 m) (w + V m)).toInt) ∧ ∀ X : Int, 0 ≤ X → (∀ j, j < m + 1 → ∀ w', W k j = some w' → w'.toInt + (V j).toInt ≤ X) → (mx (gb W V k 0 m) (w + V m)).toInt ≤ X
      rw [ea]
      refine ⟨by omega, by omega, fun j hj w' hw2 => ?_, fun X hX hh => ?_⟩
      · by_cases e2 : j = m
        · rw [e2, q] at hw2
          cases hw2
          rw [e2]
          omega
        · have := h3 j (by omega) w' hw2
          omega
      · have h5 := h4 X hX (fun j hj w hw2 => hh j (by omega) w hw2)
        have h6 := hh m (Nat.lt_succ_self m) w q
        omega
theorem f42 (hκ : Rd κ) (hn : n ≤ 10) (hii : ii ≤ 1000) (hc : M0 113 0 = nI n) (hr : Wrg n W) (hW6 : Ws n W)
    (h25 : ∀ Q' : Ou → Prop, (∀ M, (∀ o x, ¬ o = 118 → M o x = M0 o x) → CW M n W → Q' (.inl none, M, κ)) → RT 25 (0, entL 25 [.ref 113, .int (nI ii), .int 64], [], M0, κ) Q')
    (K : ∀ M1, (∀ o x, ¬ (o = 118 ∨ o = 123) → M1 o x = M0 o x) → CW M1 n W → ((!psd (fwZ n (eW W) n) n) = true → ∀ i, i < n → M1 123 i = prF (fwZ n (eW W) n) n i) → Q (.inl (some (.int (bI (!psd (fwZ n (eW W) n) n)))), M1, κ)) :
    RT 42 (0, entL 42 [.ref 122, .ref 113, .int (nI ii)], [], M0, κ) Q := by
  refine S42_0 hκ (by omega) (h25 _ (fun M1 f1 hW => ⟨none, M1, κ, rfl, ?_⟩))
  refine w_weak (lle_s (lle_s (lle_u (lle_u (lle_u (lle_u (lle_u lle_n))))))) (S42_7 hκ hn ((f1 _ _ (by omega)).trans hc) ?_)
  obtain ⟨F, hF⟩ : ∃ F, F = fwZ n (eW W) n := ⟨_, rfl⟩
  rw [← hF] at K
  have hAm : ∀ Qp, Pot n W Qp → psd F n = false ∧ ∀ k, k < n → (prF F n k).toInt ≤ Qp k := fun Qp hQ => by
    have := A_all hW6 hQ
    rw [← hF] at this
    exact ⟨A_psd this, fun k hk => A_min hQ.1 this hk⟩
  have hBp : psd F n = false → Pot n W (fun k => (prF F n k).toInt) := fun h => by
    rw [hF] at h ⊢
    exact B_pot hn hW6 h
  -- all are 0 at first
  refine loopI (n := n) (fun k M => RT 42 (9, [.ref 122, .ref 113, UU, .int (nI k), UU, UU, UU], [], M, κ) Q) (fun k M => (∀ o x, ¬ (o = 123) → M o x = M1 o x) ∧ ∀ i, i < k → M 123 i = 0) (fun k M hk hI ih => ?_) (fun M hI => ?_) 0 M1 (Nat.zero_le _) ⟨fun _ _ _ => rfl, fun i hi => absurd hi (Nat.not_lt_zero i)⟩
  · obtain ⟨g1, g2⟩ := hI
    refine S42_9 hκ hn (by omega) ((g1 _ _ (by omega)).trans ((f1 _ _ (by omega)).trans hc)) (fun _ => ih _ ⟨fun o x h => (stM_o h).trans (g1 o x h), fun i hi => ?_⟩) (fun z => absurd hk z)
    by_cases e : i = k
    · rw [e, stM_s]
    · rw [stM_j e]
      exact g2 i (by omega)
  · obtain ⟨g1, g2⟩ := hI
    refine S42_9 hκ hn (Nat.le_refl _) ((g1 _ _ (by omega)).trans ((f1 _ _ (by omega)).trans hc)) (fun z => absurd z (Nat.lt_irrefl _)) (fun _ => ?_)
    -- the rounds
    refine loopI (n := n + 1) (fun r M => RT 42 (32, [.ref 122, .ref 113, UU, .int (nI r), UU, UU, UU], [], M, κ) Q) (fun r M => (∀ o x, ¬ (o = 118 ∨ o = 123) → M o x = M0 o x) ∧ CW M n W ∧ (∀ k, k < n → 0 ≤ (M 123 k).toInt ∧ (M 123 k).toInt ≤ ((80 * r : Nat) : Int)) ∧ (psd F n = false → (∀ k, k < n → (M 123 k).toInt ≤ (prF F n k).toInt) ∧ r ≤ cq (fun k => (M 123 k).toInt) (fun k => (prF F n k).toInt) n)) (fun r M hr1 hI ih => ?_) (fun M hI => ?_) 0 M (Nat.zero_le _) ⟨fun o x h => (g1 o x (by omega)).trans (f1 o x (by omega)), fun i j hi hj => (g1 _ _ (by omega)).trans (hW i j hi hj), fun k hk => ?_, fun h => ⟨fun k hk => ?_, Nat.zero_le _⟩⟩
    · obtain ⟨k1, k2, k3, k4⟩ := hI
      have hc1 := (k1 113 0 (by omega)).trans hc
      refine S42_32 hκ hn (by omega) hc1 (fun z => absurd z (by omega)) (fun _ => ?_)
      -- one round
      have inner : ∀ m M' ri, m ≤ n → (∀ o x, ¬ (o = 118 ∨ o = 123) → M' o x = M0 o x) → CW M' n W → (∀ k, k < n → (M 123 k).toInt ≤ (M' 123 k).toInt ∧ (M' 123 k).toInt ≤ ((80 * r + 8 * (n - m) : Nat) : Int)) → (psd F n = false → ∀ k, k < n → (M' 123 k).toInt ≤ (prF F n k).toInt) → (ri = false → ∀ k, k < n → M' 123 k = M 123 k) → (∀ k, m ≤ k → k < n → ∀ j, j < n → ∀ w, W k j = some w → w.toInt + (M 123 j).toInt ≤ (M' 123 k).toInt) → (ri = true → ∃ k, k < n ∧ (M 123 k).toInt < (M' 123 k).toInt) → RT 42 (51, [.ref 122, .ref 113, UU, .int (nI r), .int (bI ri), .int (nI m - 1), UU], [], M', κ) Q := by
        intro m
        induction m with
        | zero =>
          intro M' ri hm a1 a2 a3 a4 a5 a6 a7
          rw [km1]
          refine Sm42_51 hκ (by omega) (fun h => ?_) (fun h => ?_)
          · -- something rose
            refine ih M' ⟨a1, a2, fun k hk => ?_, fun hp => ⟨a4 hp, ?_⟩⟩
            · have h1 := k3 k hk
              have h2 := a3 k hk
              omega
            · obtain ⟨q1, q2⟩ := k4 hp
              obtain ⟨k, hk, hlt⟩ := a7 h
              have hpot := hBp hp
              have ht := tight hpot (fun Qp hQ => (hAm Qp hQ).2) (fun k hk => (k3 k hk).1) q1 ⟨k, hk, fun z => by
                have h1 := a4 hp k hk
                have z' : (M 123 k).toInt = (prF F n k).toInt := z
                omega⟩
              obtain ⟨k, j, w, hk, hj, hw, t1, t2, t3⟩ := ht
              have hs := cq_strict (p := fun k => (M 123 k).toInt) (p' := fun k => (M' 123 k).toInt) (D := fun k => (prF F n k).toInt) n (fun i hi e => by
                have h1 := a4 hp i hi
                have h2 := (a3 i hi).1
                have e' : (M 123 i).toInt = (prF F n i).toInt := e
                show (M' 123 i).toInt = (prF F n i).toInt
                omega) ⟨k, hk, t1, by
                have h1 := a4 hp k hk
                have h2 := a6 k (Nat.zero_le _) hk j hj w hw
                have t2' : (M 123 j).toInt = (prF F n j).toInt := t2
                have t3' : (prF F n k).toInt ≤ w.toInt + (prF F n j).toInt := t3
                show (M' 123 k).toInt = (prF F n k).toInt
                omega⟩
              omega
          · -- nothing rose: these are the priorities
            have hri : ri = false := Bool.eq_false_iff.mpr h
            have e5 := a5 hri
            have hpot : Pot n W (fun k => (M' 123 k).toInt) := by
              refine ⟨fun k hk => ?_, fun i j hi hj w hw => ?_⟩
              · have h1 := k3 k hk
                have h2 := a3 k hk
                show 0 ≤ (M' 123 k).toInt ∧ (M' 123 k).toInt ≤ 100000
                omega
              · have := a6 i (Nat.zero_le _) hi j hj w hw
                rw [← e5 j hj] at this
                exact this
            obtain ⟨hp, hm2⟩ := hAm _ hpot
            have hb : (!psd F n) = true := by rw [hp]; rfl
            have := K M' a1 a2 (fun _ i hi => Int32.toInt_inj.mp (by
              have h1 := a4 hp i hi
              have h2 := hm2 i hi
              have h2' : (prF F n i).toInt ≤ (M' 123 i).toInt := h2
              omega))
            rw [hb] at this
            exact this
        | succ m ihm =>
          intro M' ri hm a1 a2 a3 a4 a5 a6 a7
          have hmn : m < n := hm
          have hc2 := (a1 113 0 (by omega)).trans hc
          rw [nI_sub1 (by omega), show m + 1 - 1 = m by omega]
          have hV : ∀ j, j < n → 0 ≤ (M' 123 j).toInt ∧ (M' 123 j).toInt ≤ ((80 * r + 8 * (n - (m + 1)) : Nat) : Int) := fun j hj => by
            have h1 := k3 j hj
            have h2 := a3 j hj
            omega
          obtain ⟨s1, s2, s3, s4⟩ := gb_spec hr (by omega) hmn hV n (Nat.le_refl n)
          refine S42_51 (r_64 := gb W (M' 123) m 0 n) hκ hn hmn (by omega) hc2 (fun _ => c27 hκ ⟨rfl, rfl, by decide⟩ hmn hn hc2 a2 hr) (fun z => absurd z (Nat.not_lt_zero _)) (fun z => absurd z (Nat.not_lt_zero _)) (fun _ => ?_)
          rw [nI_dec9]
          have hm0 := hV m hmn
          have hmm : (mx (M' 123 m) (gb W (M' 123) m 0 n)).toInt = max (M' 123 m).toInt (gb W (M' 123) m 0 n).toInt := mx_toInt _ _
          refine ihm _ _ (by omega) (fun o x h => ?_) (fun i j hi hj => ?_) (fun k hk => ?_) (fun hp k hk => ?_) (fun hri k hk => ?_) (fun k h1 h2 j hj w hw => ?_) (fun hri => ?_)
          · rw [stM_n (by omega)]
            exact a1 o x h
          · rw [stM_n (by omega)]
            exact a2 i j hi hj
          · have h2 := a3 k hk
            by_cases e : k = m
            · rw [e, stM_s, hmm]
              rw [e] at h2
              omega
            · rw [stM_j e]
              omega
          · have h2 := a4 hp k hk
            by_cases e : k = m
            · rw [e, stM_s, hmm]
              rw [e] at h2
              have hpot := hBp hp
              have := s4 (prF F n m).toInt (by have := (hpot.1 m hmn).1; exact this) (fun j hj w hw => by
                have h5 := hpot.2 m j hmn hj w hw
                have h6 := a4 hp j hj
                have h5' : w.toInt + (prF F n j).toInt ≤ (prF F n m).toInt := h5
                omega)
              omega
            · rw [stM_j e]
              exact h2
          · by_cases hri0 : ri = true
            · rw [if_pos hri0] at hri
              cases hri
            · rw [if_neg hri0] at hri
              have hri1 : ri = false := Bool.eq_false_iff.mpr hri0
              by_cases e : k = m
              · rw [e, stM_s, ← a5 hri1 m hmn]
                apply Int32.toInt_inj.mp
                rw [hmm]
                by_cases q : M' 123 m < gb W (M' 123) m 0 n
                · rw [if_pos q] at hri
                  cases hri
                · rw [ltI] at q
                  omega
              · rw [stM_j e]
                exact a5 hri1 k hk
          · have h9 := (a3 j hj).1
            by_cases e : k = m
            · rw [e, stM_s, hmm]
              rw [e] at hw
              have := s3 j hj w hw
              omega
            · rw [stM_j e]
              exact a6 k (by omega) h2 j hj w hw
          · by_cases hri0 : ri = true
            · obtain ⟨k, hk, hlt⟩ := a7 hri0
              refine ⟨k, hk, ?_⟩
              by_cases e : k = m
              · rw [e] at hlt ⊢
                rw [stM_s, hmm]
                omega
              · rw [stM_j e]
                exact hlt
            · rw [if_neg hri0] at hri
              refine ⟨m, hmn, ?_⟩
              have h9 := (a3 m hmn).1
              by_cases q : M' 123 m < gb W (M' 123) m 0 n
              · rw [ltI] at q
                rw [stM_s, hmm]
                omega
              · rw [if_neg q] at hri
                cases hri
      refine inner n M false (Nat.le_refl n) k1 k2 (fun k hk => ?_) (fun hp => (k4 hp).1) (fun _ k hk => rfl) (fun k h1 h2 => absurd h2 (by omega)) (fun h => by cases h)
      have := k3 k hk
      omega
    · obtain ⟨k1, k2, k3, k4⟩ := hI
      refine S42_32 hκ hn (Nat.le_refl _) ((k1 _ _ (by omega)).trans hc) (fun _ => ?_) (fun z => absurd (Nat.lt_succ_self n) z)
      have hp : psd F n = true := by
        cases q : psd F n with
        | true => rfl
        | false =>
          have h1 := (k4 q).2
          have h2 := cq_le (p := fun k => (M 123 k).toInt) (D := fun k => (prF F n k).toInt) n
          omega
      have hb : (!psd F n) = false := by rw [hp]; rfl
      have := K M k1 k2 (fun z => by rw [hb] at z; cases z)
      rw [hb] at this
      exact this
    · rw [g2 k hk, c0]
      omega
    · rw [g2 k hk, c0]
      exact ((hBp h).1 k hk).1
end BF
end P_38_prior
