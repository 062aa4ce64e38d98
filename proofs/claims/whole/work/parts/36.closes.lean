/-! WAYS: the model closes -/
section P_36_closes
theorem i_129_0 : ins 129 0 = some (.iconst 0, 1, 0, 0, 0, 0) := rfl
theorem i_129_1 : ins 129 1 = some (.istore_n 3, 2, 3, 0, 0, 0) := rfl
theorem i_129_2 : ins 129 2 = some (.iload_n 3, 3, 3, 0, 0, 0) := rfl
theorem i_129_3 : ins 129 3 = some (.iload_n 1, 4, 1, 0, 0, 0) := rfl
theorem i_129_4 : ins 129 4 = some (.if_icmp .ge 44, 7, 48, 0, 0, 0) := rfl
theorem i_129_7 : ins 129 7 = some (.iconst 0, 8, 0, 0, 0, 0) := rfl
theorem i_129_8 : ins 129 8 = some (.istore 4, 10, 4, 0, 0, 0) := rfl
theorem i_129_48 : ins 129 48 = some (.iconst 0, 49, 0, 0, 0, 0) := rfl
theorem i_129_49 : ins 129 49 = some (.istore_n 3, 50, 3, 0, 0, 0) := rfl
theorem i_129_197 : ins 129 197 = some (.iload 4, 199, 4, 0, 0, 0) := rfl
theorem i_129_199 : ins 129 199 = some (.iload_n 1, 200, 1, 0, 0, 0) := rfl
theorem i_129_200 : ins 129 200 = some (.if_icmp .ge 32, 203, 232, 0, 0, 0) := rfl
theorem i_129_203 : ins 129 203 = some (.iload_n 3, 204, 3, 0, 0, 0) := rfl
theorem i_129_204 : ins 129 204 = some (.ifCond .ne 16, 207, 220, 0, 0, 0) := rfl
theorem i_129_207 : ins 129 207 = some (.aload_n 0, 208, 0, 0, 0, 0) := rfl
theorem i_129_208 : ins 129 208 = some (.getfield 129, 211, 7, 43, 0, 0) := rfl
theorem i_129_211 : ins 129 211 = some (.bipush 11, 213, 0, 0, 0, 11) := rfl
theorem i_129_213 : ins 129 213 = some (.iload 4, 215, 4, 0, 0, 0) := rfl
theorem i_129_215 : ins 129 215 = some (.imul, 216, 0, 0, 0, 0) := rfl
theorem i_129_216 : ins 129 216 = some (.iaload, 217, 0, 0, 0, 0) := rfl
theorem i_129_217 : ins 129 217 = some (.ifCond .le 7, 220, 224, 0, 0, 0) := rfl
theorem i_129_220 : ins 129 220 = some (.iconst 1, 221, 0, 0, 0, 1) := rfl
theorem i_129_221 : ins 129 221 = some (.goto 4, 224, 225, 0, 0, 0) := rfl
theorem i_129_224 : ins 129 224 = some (.iconst 0, 225, 0, 0, 0, 0) := rfl
theorem i_129_225 : ins 129 225 = some (.istore_n 3, 226, 3, 0, 0, 0) := rfl
theorem i_129_226 : ins 129 226 = some (.iinc 4 1, 229, 4, 0, 0, 1) := rfl
theorem i_129_229 : ins 129 229 = some (.goto (-32), 232, 197, 0, 0, 0) := rfl
theorem i_129_232 : ins 129 232 = some (.iload_n 3, 233, 3, 0, 0, 0) := rfl
theorem i_129_233 : ins 129 233 = some (.ireturn, 234, 0, 0, 0, 0) := rfl
theorem S129_0 {Q : Ou → Prop} {M : Mem} {κ : Kp} (hκ : Rd κ) {n i : Nat} (hn : n ≤ 10) (hi : i ≤ n) {ii : Nat} (b_ii : ii ≤ 100000)
    (k1 : RT 129 (2, [.ref 134, .int (nI n), .int (nI ii), .int (nI 0), UU, UU, UU], [], M, κ) Q)
    : RT 129 (0, [.ref 134, .int (nI n), .int (nI ii), UU, UU, UU, UU], [], M, κ) Q := by
  refine w_push i_129_0 rfl ?_
  refine w_store (l1 := [.ref 134, .int (nI n), .int (nI ii), .int 0, UU, UU, UU]) i_129_1 rfl (Nat.le_of_ble_eq_true rfl) rfl ?_
  exact (k1)
theorem S129_2 {Q : Ou → Prop} {M : Mem} {κ : Kp} (hκ : Rd κ) {n i : Nat} (hn : n ≤ 10) (hi : i ≤ n) {ii : Nat} (b_ii : ii ≤ 100000)
    (k1 : i < n → RT 129 (10, [.ref 134, .int (nI n), .int (nI ii), .int (nI i), .int (nI 0), UU, UU], [], M, κ) Q)
    (k2 : ¬ (i < n) → RT 129 (50, [.ref 134, .int (nI n), UU, .int (nI 0), UU, UU, UU], [], M, κ) Q)
    : RT 129 (2, [.ref 134, .int (nI n), .int (nI ii), .int (nI i), UU, UU, UU], [], M, κ) Q := by
  refine w_load i_129_2 rfl rfl ?_
  refine w_load i_129_3 rfl rfl ?_
  refine w_if2n (i < n) i_129_4 (cN_ge (a := i) (b := n) (by omega) (by omega)) ?_ ?_
  · intro h1
    refine w_push i_129_7 rfl ?_
    refine w_store (l1 := [.ref 134, .int (nI n), .int (nI ii), .int (nI i), .int 0, UU, UU]) i_129_8 rfl (Nat.le_of_ble_eq_true rfl) rfl ?_
    exact (k1 h1)
  · intro h2
    refine w_push i_129_48 rfl ?_
    refine w_store (l1 := [.ref 134, .int (nI n), .int (nI ii), .int 0, UU, UU, UU]) i_129_49 rfl (Nat.le_of_ble_eq_true rfl) rfl ?_
    exact w_weak (lle_s (lle_s (lle_u (lle_s (lle_s (lle_s (lle_s lle_n))))))) (k2 h2)
theorem S129_197 {Q : Ou → Prop} {M : Mem} {κ : Kp} (hκ : Rd κ) {n i : Nat} (hn : n ≤ 10) (hi : i ≤ n) {mo : Bool}
    (k1 : i < n → RT 129 (197, [.ref 134, .int (nI n), UU, .int (bI (if mo = true then true else (if 0 < (M 168 (11 * i)) then true else false))), .int (nI (i + 1)), UU, UU], [], M, κ) Q)
    (k2 : ¬ (i < n) → Q (.inl (some (.int (bI mo))), M, κ))
    : RT 129 (197, [.ref 134, .int (nI n), UU, .int (bI mo), .int (nI i), UU, UU], [], M, κ) Q := by
  refine w_load i_129_197 rfl rfl ?_
  refine w_load i_129_199 rfl rfl ?_
  refine w_if2n (i < n) i_129_200 (cN_ge (a := i) (b := n) (by omega) (by omega)) ?_ ?_
  · intro h1
    refine w_load i_129_203 rfl rfl ?_
    have K2 : RT 129 (225, [.ref 134, .int (nI n), UU, .int (bI mo), .int (nI i), UU, UU], [.int (bI (if mo = true then true else (if 0 < (M 168 (11 * i)) then true else false)))], M, κ) Q := by
      refine w_store (l1 := [.ref 134, .int (nI n), UU, .int (bI (if mo = true then true else (if 0 < (M 168 (11 * i)) then true else false))), .int (nI i), UU, UU]) i_129_225 rfl (Nat.le_of_ble_eq_true rfl) rfl ?_
      refine w_iincN (n := i) (l1 := [.ref 134, .int (nI n), UU, .int (bI (if mo = true then true else (if 0 < (M 168 (11 * i)) then true else false))), .int (nI (i + 1)), UU, UU]) 1 i_129_226 rfl rfl ?_
      refine w_goto i_129_229 ?_
      exact (k1 h1)
    refine w_if0 (mo = true) i_129_204 cB_ne ?_ ?_
    · intro h3
      refine w_push i_129_220 rfl ?_
      refine w_goto i_129_221 ?_
      exact (by first | exact (K2) | (have K9 := K2; simp only [↓if_pos h3] at K9 ⊢; exact (K9)))
    · intro h4
      refine w_load i_129_207 rfl rfl ?_
      refine w_getR 168 i_129_208 hκ (⟨rfl, by decide⟩ : isOb 134 7) rfl rfl ?_
      refine w_push i_129_211 rfl ?_
      refine w_load i_129_213 rfl rfl ?_
      refine w_bin (w := (nI (11 * i))) i_129_215 rfl (nI_mul 11 i) ?_
      refine w_ialdN (e := (11 * i)) (v := (M 168 (11 * i))) i_129_216 hκ (⟨rfl, rfl, by decide⟩ : isAr 168 100) (by omega) (by decide) (rfl) ?_
      refine w_if0n (0 < (M 168 (11 * i))) i_129_217 cI0_le ?_ ?_
      · intro h5
        refine w_push i_129_220 rfl ?_
        refine w_goto i_129_221 ?_
        exact (by first | exact (K2) | (have K9 := K2; simp only [↓if_neg h4, ↓if_pos h5] at K9 ⊢; exact (K9)))
      · intro h6
        refine w_push i_129_224 rfl ?_
        exact (by first | exact (K2) | (have K9 := K2; simp only [↓if_neg h4, ↓if_neg h6] at K9 ⊢; exact (K9)))
  · intro h7
    refine w_load i_129_232 rfl rfl ?_
    exact w_iret i_129_233 (.inr ⟨rfl, isB_bI _⟩) (k2 h7)
theorem i_129_50 : ins 129 50 = some (.iload_n 3, 51, 3, 0, 0, 0) := rfl
theorem i_129_51 : ins 129 51 = some (.iload_n 1, 52, 1, 0, 0, 0) := rfl
theorem i_129_52 : ins 129 52 = some (.if_icmp .ge 140, 55, 192, 0, 0, 0) := rfl
theorem i_129_55 : ins 129 55 = some (.iconst 0, 56, 0, 0, 0, 0) := rfl
theorem i_129_56 : ins 129 56 = some (.istore 4, 58, 4, 0, 0, 0) := rfl
theorem i_129_192 : ins 129 192 = some (.iconst 0, 193, 0, 0, 0, 0) := rfl
theorem i_129_193 : ins 129 193 = some (.istore_n 3, 194, 3, 0, 0, 0) := rfl
theorem i_129_194 : ins 129 194 = some (.iconst 0, 195, 0, 0, 0, 0) := rfl
theorem i_129_195 : ins 129 195 = some (.istore 4, 197, 4, 0, 0, 0) := rfl
theorem S129_50 {Q : Ou → Prop} {M : Mem} {κ : Kp} (hκ : Rd κ) {n z : Nat} (hn : n ≤ 10) (hz : z ≤ n) 
    (k1 : z < n → RT 129 (58, [.ref 134, .int (nI n), UU, .int (nI z), .int (nI 0), UU, UU], [], M, κ) Q)
    (k2 : ¬ (z < n) → RT 129 (197, [.ref 134, .int (nI n), UU, .int 0, .int (nI 0), UU, UU], [], M, κ) Q)
    : RT 129 (50, [.ref 134, .int (nI n), UU, .int (nI z), UU, UU, UU], [], M, κ) Q := by
  refine w_load i_129_50 rfl rfl ?_
  refine w_load i_129_51 rfl rfl ?_
  refine w_if2n (z < n) i_129_52 (cN_ge (a := z) (b := n) (by omega) (by omega)) ?_ ?_
  · intro h1
    refine w_push i_129_55 rfl ?_
    refine w_store (l1 := [.ref 134, .int (nI n), UU, .int (nI z), .int 0, UU, UU]) i_129_56 rfl (Nat.le_of_ble_eq_true rfl) rfl ?_
    exact (k1 h1)
  · intro h2
    refine w_push i_129_192 rfl ?_
    refine w_store (l1 := [.ref 134, .int (nI n), UU, .int 0, UU, UU, UU]) i_129_193 rfl (Nat.le_of_ble_eq_true rfl) rfl ?_
    refine w_push i_129_194 rfl ?_
    refine w_store (l1 := [.ref 134, .int (nI n), UU, .int 0, .int 0, UU, UU]) i_129_195 rfl (Nat.le_of_ble_eq_true rfl) rfl ?_
    exact (k2 h2)
theorem i_129_58 : ins 129 58 = some (.iload 4, 60, 4, 0, 0, 0) := rfl
theorem i_129_60 : ins 129 60 = some (.iload_n 1, 61, 1, 0, 0, 0) := rfl
theorem i_129_61 : ins 129 61 = some (.if_icmp .ge 125, 64, 186, 0, 0, 0) := rfl
theorem i_129_64 : ins 129 64 = some (.iconst 0, 65, 0, 0, 0, 0) := rfl
theorem i_129_65 : ins 129 65 = some (.istore 5, 67, 5, 0, 0, 0) := rfl
theorem i_129_186 : ins 129 186 = some (.iinc 3 1, 189, 3, 0, 0, 1) := rfl
theorem i_129_189 : ins 129 189 = some (.goto (-139), 192, 50, 0, 0, 0) := rfl
theorem S129_58 {Q : Ou → Prop} {M : Mem} {κ : Kp} (hκ : Rd κ) {n i z : Nat} (hn : n ≤ 10) (hi : i ≤ n) (hz : z ≤ n) 
    (k1 : i < n → RT 129 (67, [.ref 134, .int (nI n), UU, .int (nI z), .int (nI i), .int (nI 0), UU], [], M, κ) Q)
    (k2 : ¬ (i < n) → RT 129 (50, [.ref 134, .int (nI n), UU, .int (nI (z + 1)), UU, UU, UU], [], M, κ) Q)
    : RT 129 (58, [.ref 134, .int (nI n), UU, .int (nI z), .int (nI i), UU, UU], [], M, κ) Q := by
  refine w_load i_129_58 rfl rfl ?_
  refine w_load i_129_60 rfl rfl ?_
  refine w_if2n (i < n) i_129_61 (cN_ge (a := i) (b := n) (by omega) (by omega)) ?_ ?_
  · intro h1
    refine w_push i_129_64 rfl ?_
    refine w_store (l1 := [.ref 134, .int (nI n), UU, .int (nI z), .int (nI i), .int 0, UU]) i_129_65 rfl (Nat.le_of_ble_eq_true rfl) rfl ?_
    exact (k1 h1)
  · intro h2
    refine w_iincN (n := z) (l1 := [.ref 134, .int (nI n), UU, .int (nI (z + 1)), .int (nI i), UU, UU]) 1 i_129_186 rfl rfl ?_
    refine w_goto i_129_189 ?_
    exact w_weak (lle_s (lle_s (lle_s (lle_s (lle_u (lle_s (lle_s lle_n))))))) (k2 h2)
theorem i_129_10 : ins 129 10 = some (.iload 4, 12, 4, 0, 0, 0) := rfl
theorem i_129_12 : ins 129 12 = some (.iload_n 1, 13, 1, 0, 0, 0) := rfl
theorem i_129_13 : ins 129 13 = some (.if_icmp .ge 29, 16, 42, 0, 0, 0) := rfl
theorem i_129_16 : ins 129 16 = some (.aload_n 0, 17, 0, 0, 0, 0) := rfl
theorem i_129_17 : ins 129 17 = some (.getfield 129, 20, 7, 43, 0, 0) := rfl
theorem i_129_20 : ins 129 20 = some (.bipush 10, 22, 0, 0, 0, 10) := rfl
theorem i_129_22 : ins 129 22 = some (.iload_n 3, 23, 3, 0, 0, 0) := rfl
theorem i_129_23 : ins 129 23 = some (.imul, 24, 0, 0, 0, 0) := rfl
theorem i_129_24 : ins 129 24 = some (.iload 4, 26, 4, 0, 0, 0) := rfl
theorem i_129_26 : ins 129 26 = some (.iadd, 27, 0, 0, 0, 0) := rfl
theorem i_129_27 : ins 129 27 = some (.aload_n 0, 28, 0, 0, 0, 0) := rfl
theorem i_129_28 : ins 129 28 = some (.iload_n 3, 29, 3, 0, 0, 0) := rfl
theorem i_129_29 : ins 129 29 = some (.iload 4, 31, 4, 0, 0, 0) := rfl
theorem i_129_31 : ins 129 31 = some (.iload_n 2, 32, 2, 0, 0, 0) := rfl
theorem i_129_32 : ins 129 32 = some (.invokevirtual 256, 35, 127, 0, 4, 0) := rfl
theorem i_129_35 : ins 129 35 = some (.iastore, 36, 0, 0, 0, 0) := rfl
theorem i_129_36 : ins 129 36 = some (.iinc 4 1, 39, 4, 0, 0, 1) := rfl
theorem i_129_39 : ins 129 39 = some (.goto (-29), 42, 10, 0, 0, 0) := rfl
theorem i_129_42 : ins 129 42 = some (.iinc 3 1, 45, 3, 0, 0, 1) := rfl
theorem i_129_45 : ins 129 45 = some (.goto (-43), 48, 2, 0, 0, 0) := rfl
theorem S129_10 {Q : Ou → Prop} {M : Mem} {κ : Kp} (hκ : Rd κ) {n i j : Nat} (hn : n ≤ 10) (hi : i < n) (hj : j ≤ n) {ii : Nat} (b_ii : ii ≤ 100000) {r_32 : Int32}
    (o1 : j < n → Run 127 (0, entL 127 [.ref 134, .int (nI i), .int (nI j), .int (nI ii)], [], M, κ) (.inl (some (.int r_32)), M, κ))
    (k1 : j < n → RT 129 (10, [.ref 134, .int (nI n), .int (nI ii), .int (nI i), .int (nI (j + 1)), UU, UU], [], (stM M 168 ((10 * i) + j) r_32), κ) Q)
    (k2 : ¬ (j < n) → RT 129 (2, [.ref 134, .int (nI n), .int (nI ii), .int (nI (i + 1)), UU, UU, UU], [], M, κ) Q)
    : RT 129 (10, [.ref 134, .int (nI n), .int (nI ii), .int (nI i), .int (nI j), UU, UU], [], M, κ) Q := by
  refine w_load i_129_10 rfl rfl ?_
  refine w_load i_129_12 rfl rfl ?_
  refine w_if2n (j < n) i_129_13 (cN_ge (a := j) (b := n) (by omega) (by omega)) ?_ ?_
  · intro h1
    refine w_load i_129_16 rfl rfl ?_
    refine w_getR 168 i_129_17 hκ (⟨rfl, by decide⟩ : isOb 134 7) rfl rfl ?_
    refine w_push i_129_20 rfl ?_
    refine w_load i_129_22 rfl rfl ?_
    refine w_bin (w := (nI (10 * i))) i_129_23 rfl (nI_mul 10 i) ?_
    refine w_load i_129_24 rfl rfl ?_
    refine w_bin (w := (nI ((10 * i) + j))) i_129_26 rfl (nI_add (10 * i) j) ?_
    refine w_load i_129_27 rfl rfl ?_
    refine w_load i_129_28 rfl rfl ?_
    refine w_load i_129_29 rfl rfl ?_
    refine w_load i_129_31 rfl rfl ?_
    refine w_callV (i := _) i_129_32 ⟨by decide, by decide, by decide, rfl⟩ hκ (⟨rfl, by decide⟩ : isOb 134 7) (av := [.int (nI i), .int (nI j), .int (nI ii)]) (rest := [.int (nI ((10 * i) + j)), .ref 168]) rfl rfl (Nat.le_of_ble_eq_true rfl) (v := some (.int r_32)) (o1 h1) ?_
    refine w_iastN (e := ((10 * i) + j)) i_129_35 hκ (⟨rfl, rfl, by decide⟩ : isAr 168 100) (by omega) (by decide) ?_
    refine w_iincN (n := j) (l1 := [.ref 134, .int (nI n), .int (nI ii), .int (nI i), .int (nI (j + 1)), UU, UU]) 1 i_129_36 rfl rfl ?_
    refine w_goto i_129_39 ?_
    exact (k1 h1)
  · intro h2
    refine w_iincN (n := i) (l1 := [.ref 134, .int (nI n), .int (nI ii), .int (nI (i + 1)), .int (nI j), UU, UU]) 1 i_129_42 rfl rfl ?_
    refine w_goto i_129_45 ?_
    exact w_weak (lle_s (lle_s (lle_s (lle_s (lle_u (lle_s (lle_s lle_n))))))) (k2 h2)
theorem i_129_67 : ins 129 67 = some (.iload 5, 69, 5, 0, 0, 0) := rfl
theorem i_129_69 : ins 129 69 = some (.iload_n 1, 70, 1, 0, 0, 0) := rfl
theorem i_129_70 : ins 129 70 = some (.if_icmp .ge 110, 73, 180, 0, 0, 0) := rfl
theorem i_129_73 : ins 129 73 = some (.aload_n 0, 74, 0, 0, 0, 0) := rfl
theorem i_129_74 : ins 129 74 = some (.getfield 129, 77, 7, 43, 0, 0) := rfl
theorem i_129_77 : ins 129 77 = some (.bipush 10, 79, 0, 0, 0, 10) := rfl
theorem i_129_79 : ins 129 79 = some (.iload 4, 81, 4, 0, 0, 0) := rfl
theorem i_129_81 : ins 129 81 = some (.imul, 82, 0, 0, 0, 0) := rfl
theorem i_129_82 : ins 129 82 = some (.iload_n 3, 83, 3, 0, 0, 0) := rfl
theorem i_129_83 : ins 129 83 = some (.iadd, 84, 0, 0, 0, 0) := rfl
theorem i_129_84 : ins 129 84 = some (.iaload, 85, 0, 0, 0, 0) := rfl
theorem i_129_85 : ins 129 85 = some (.ldc 222, 87, 222, 0, 0, (-100000)) := rfl
theorem i_129_87 : ins 129 87 = some (.if_icmp .le 24, 90, 111, 0, 0, 0) := rfl
theorem i_129_90 : ins 129 90 = some (.aload_n 0, 91, 0, 0, 0, 0) := rfl
theorem i_129_91 : ins 129 91 = some (.getfield 129, 94, 7, 43, 0, 0) := rfl
theorem i_129_94 : ins 129 94 = some (.bipush 10, 96, 0, 0, 0, 10) := rfl
theorem i_129_96 : ins 129 96 = some (.iload_n 3, 97, 3, 0, 0, 0) := rfl
theorem i_129_97 : ins 129 97 = some (.imul, 98, 0, 0, 0, 0) := rfl
theorem i_129_98 : ins 129 98 = some (.iload 5, 100, 5, 0, 0, 0) := rfl
theorem i_129_100 : ins 129 100 = some (.iadd, 101, 0, 0, 0, 0) := rfl
theorem i_129_101 : ins 129 101 = some (.iaload, 102, 0, 0, 0, 0) := rfl
theorem i_129_102 : ins 129 102 = some (.ldc 222, 104, 222, 0, 0, (-100000)) := rfl
theorem i_129_104 : ins 129 104 = some (.if_icmp .le 7, 107, 111, 0, 0, 0) := rfl
theorem i_129_107 : ins 129 107 = some (.iconst 1, 108, 0, 0, 0, 1) := rfl
theorem i_129_108 : ins 129 108 = some (.goto 4, 111, 112, 0, 0, 0) := rfl
theorem i_129_111 : ins 129 111 = some (.iconst 0, 112, 0, 0, 0, 0) := rfl
theorem i_129_112 : ins 129 112 = some (.istore 6, 114, 6, 0, 0, 0) := rfl
theorem i_129_114 : ins 129 114 = some (.iload 6, 116, 6, 0, 0, 0) := rfl
theorem i_129_116 : ins 129 116 = some (.ifCond .eq 58, 119, 174, 0, 0, 0) := rfl
theorem i_129_119 : ins 129 119 = some (.aload_n 0, 120, 0, 0, 0, 0) := rfl
theorem i_129_120 : ins 129 120 = some (.getfield 129, 123, 7, 43, 0, 0) := rfl
theorem i_129_123 : ins 129 123 = some (.bipush 10, 125, 0, 0, 0, 10) := rfl
theorem i_129_125 : ins 129 125 = some (.iload 4, 127, 4, 0, 0, 0) := rfl
theorem i_129_127 : ins 129 127 = some (.imul, 128, 0, 0, 0, 0) := rfl
theorem i_129_128 : ins 129 128 = some (.iload 5, 130, 5, 0, 0, 0) := rfl
theorem i_129_130 : ins 129 130 = some (.iadd, 131, 0, 0, 0, 0) := rfl
theorem i_129_131 : ins 129 131 = some (.aload_n 0, 132, 0, 0, 0, 0) := rfl
theorem i_129_132 : ins 129 132 = some (.aload_n 0, 133, 0, 0, 0, 0) := rfl
theorem i_129_133 : ins 129 133 = some (.getfield 129, 136, 7, 43, 0, 0) := rfl
theorem i_129_136 : ins 129 136 = some (.bipush 10, 138, 0, 0, 0, 10) := rfl
theorem i_129_138 : ins 129 138 = some (.iload 4, 140, 4, 0, 0, 0) := rfl
theorem i_129_140 : ins 129 140 = some (.imul, 141, 0, 0, 0, 0) := rfl
theorem i_129_141 : ins 129 141 = some (.iload 5, 143, 5, 0, 0, 0) := rfl
theorem i_129_143 : ins 129 143 = some (.iadd, 144, 0, 0, 0, 0) := rfl
theorem i_129_144 : ins 129 144 = some (.iaload, 145, 0, 0, 0, 0) := rfl
theorem i_129_145 : ins 129 145 = some (.aload_n 0, 146, 0, 0, 0, 0) := rfl
theorem i_129_146 : ins 129 146 = some (.getfield 129, 149, 7, 43, 0, 0) := rfl
theorem i_129_149 : ins 129 149 = some (.bipush 10, 151, 0, 0, 0, 10) := rfl
theorem i_129_151 : ins 129 151 = some (.iload 4, 153, 4, 0, 0, 0) := rfl
theorem i_129_153 : ins 129 153 = some (.imul, 154, 0, 0, 0, 0) := rfl
theorem i_129_154 : ins 129 154 = some (.iload_n 3, 155, 3, 0, 0, 0) := rfl
theorem i_129_155 : ins 129 155 = some (.iadd, 156, 0, 0, 0, 0) := rfl
theorem i_129_156 : ins 129 156 = some (.iaload, 157, 0, 0, 0, 0) := rfl
theorem i_129_157 : ins 129 157 = some (.aload_n 0, 158, 0, 0, 0, 0) := rfl
theorem i_129_158 : ins 129 158 = some (.getfield 129, 161, 7, 43, 0, 0) := rfl
theorem i_129_161 : ins 129 161 = some (.bipush 10, 163, 0, 0, 0, 10) := rfl
theorem i_129_163 : ins 129 163 = some (.iload_n 3, 164, 3, 0, 0, 0) := rfl
theorem i_129_164 : ins 129 164 = some (.imul, 165, 0, 0, 0, 0) := rfl
theorem i_129_165 : ins 129 165 = some (.iload 5, 167, 5, 0, 0, 0) := rfl
theorem i_129_167 : ins 129 167 = some (.iadd, 168, 0, 0, 0, 0) := rfl
theorem i_129_168 : ins 129 168 = some (.iaload, 169, 0, 0, 0, 0) := rfl
theorem i_129_169 : ins 129 169 = some (.iadd, 170, 0, 0, 0, 0) := rfl
theorem i_129_170 : ins 129 170 = some (.invokevirtual 233, 173, 121, 0, 3, 0) := rfl
theorem i_129_173 : ins 129 173 = some (.iastore, 174, 0, 0, 0, 0) := rfl
theorem i_129_174 : ins 129 174 = some (.iinc 5 1, 177, 5, 0, 0, 1) := rfl
theorem i_129_177 : ins 129 177 = some (.goto (-110), 180, 67, 0, 0, 0) := rfl
theorem i_129_180 : ins 129 180 = some (.iinc 4 1, 183, 4, 0, 0, 1) := rfl
theorem i_129_183 : ins 129 183 = some (.goto (-125), 186, 58, 0, 0, 0) := rfl
theorem S129_67 {Q : Ou → Prop} {M : Mem} {κ : Kp} (hκ : Rd κ) {n i j z : Nat} (hn : n ≤ 10) (hi : i < n) (hj : j ≤ n) (hz : z < n) 
    (k1 : j < n → RT 129 (67, [.ref 134, .int (nI n), UU, .int (nI z), .int (nI i), .int (nI (j + 1)), UU], [], (if (if (-100000) < (M 168 ((10 * i) + z)) then (if (-100000) < (M 168 ((10 * z) + j)) then true else false) else false) = true then (stM M 168 ((10 * i) + j) (mx (M 168 ((10 * i) + j)) ((M 168 ((10 * i) + z)) + (M 168 ((10 * z) + j))))) else M), κ) Q)
    (k2 : ¬ (j < n) → RT 129 (58, [.ref 134, .int (nI n), UU, .int (nI z), .int (nI (i + 1)), UU, UU], [], M, κ) Q)
    : RT 129 (67, [.ref 134, .int (nI n), UU, .int (nI z), .int (nI i), .int (nI j), UU], [], M, κ) Q := by
  refine w_load i_129_67 rfl rfl ?_
  refine w_load i_129_69 rfl rfl ?_
  refine w_if2n (j < n) i_129_70 (cN_ge (a := j) (b := n) (by omega) (by omega)) ?_ ?_
  · intro h1
    refine w_load i_129_73 rfl rfl ?_
    refine w_getR 168 i_129_74 hκ (⟨rfl, by decide⟩ : isOb 134 7) rfl rfl ?_
    refine w_push i_129_77 rfl ?_
    refine w_load i_129_79 rfl rfl ?_
    refine w_bin (w := (nI (10 * i))) i_129_81 rfl (nI_mul 10 i) ?_
    refine w_load i_129_82 rfl rfl ?_
    refine w_bin (w := (nI ((10 * i) + z))) i_129_83 rfl (nI_add (10 * i) z) ?_
    refine w_ialdN (e := ((10 * i) + z)) (v := (M 168 ((10 * i) + z))) i_129_84 hκ (⟨rfl, rfl, by decide⟩ : isAr 168 100) (by omega) (by decide) (rfl) ?_
    refine w_push i_129_85 rfl ?_
    have K2 : RT 129 (112, [.ref 134, .int (nI n), UU, .int (nI z), .int (nI i), .int (nI j), UU], [.int (bI (if (-100000) < (M 168 ((10 * i) + z)) then (if (-100000) < (M 168 ((10 * z) + j)) then true else false) else false))], M, κ) Q := by
      refine w_store (l1 := [.ref 134, .int (nI n), UU, .int (nI z), .int (nI i), .int (nI j), .int (bI (if (-100000) < (M 168 ((10 * i) + z)) then (if (-100000) < (M 168 ((10 * z) + j)) then true else false) else false))]) i_129_112 rfl (Nat.le_of_ble_eq_true rfl) rfl ?_
      refine w_load i_129_114 rfl rfl ?_
      have K3 : RT 129 (174, [.ref 134, .int (nI n), UU, .int (nI z), .int (nI i), .int (nI j), .int (bI (if (-100000) < (M 168 ((10 * i) + z)) then (if (-100000) < (M 168 ((10 * z) + j)) then true else false) else false))], [], (if (if (-100000) < (M 168 ((10 * i) + z)) then (if (-100000) < (M 168 ((10 * z) + j)) then true else false) else false) = true then (stM M 168 ((10 * i) + j) (mx (M 168 ((10 * i) + j)) ((M 168 ((10 * i) + z)) + (M 168 ((10 * z) + j))))) else M), κ) Q := by
        refine w_iincN (n := j) (l1 := [.ref 134, .int (nI n), UU, .int (nI z), .int (nI i), .int (nI (j + 1)), .int (bI (if (-100000) < (M 168 ((10 * i) + z)) then (if (-100000) < (M 168 ((10 * z) + j)) then true else false) else false))]) 1 i_129_174 rfl rfl ?_
        refine w_goto i_129_177 ?_
        exact w_weak (lle_s (lle_s (lle_s (lle_s (lle_s (lle_s (lle_u lle_n))))))) (k1 h1)
      refine w_if0n ((if (-100000) < (M 168 ((10 * i) + z)) then (if (-100000) < (M 168 ((10 * z) + j)) then true else false) else false) = true) i_129_116 cB_eq ?_ ?_
      · intro h4
        refine w_load i_129_119 rfl rfl ?_
        refine w_getR 168 i_129_120 hκ (⟨rfl, by decide⟩ : isOb 134 7) rfl rfl ?_
        refine w_push i_129_123 rfl ?_
        refine w_load i_129_125 rfl rfl ?_
        refine w_bin (w := (nI (10 * i))) i_129_127 rfl (nI_mul 10 i) ?_
        refine w_load i_129_128 rfl rfl ?_
        refine w_bin (w := (nI ((10 * i) + j))) i_129_130 rfl (nI_add (10 * i) j) ?_
        refine w_load i_129_131 rfl rfl ?_
        refine w_load i_129_132 rfl rfl ?_
        refine w_getR 168 i_129_133 hκ (⟨rfl, by decide⟩ : isOb 134 7) rfl rfl ?_
        refine w_push i_129_136 rfl ?_
        refine w_load i_129_138 rfl rfl ?_
        refine w_bin (w := (nI (10 * i))) i_129_140 rfl (nI_mul 10 i) ?_
        refine w_load i_129_141 rfl rfl ?_
        refine w_bin (w := (nI ((10 * i) + j))) i_129_143 rfl (nI_add (10 * i) j) ?_
        refine w_ialdN (e := ((10 * i) + j)) (v := (M 168 ((10 * i) + j))) i_129_144 hκ (⟨rfl, rfl, by decide⟩ : isAr 168 100) (by omega) (by decide) (rfl) ?_
        refine w_load i_129_145 rfl rfl ?_
        refine w_getR 168 i_129_146 hκ (⟨rfl, by decide⟩ : isOb 134 7) rfl rfl ?_
        refine w_push i_129_149 rfl ?_
        refine w_load i_129_151 rfl rfl ?_
        refine w_bin (w := (nI (10 * i))) i_129_153 rfl (nI_mul 10 i) ?_
        refine w_load i_129_154 rfl rfl ?_
        refine w_bin (w := (nI ((10 * i) + z))) i_129_155 rfl (nI_add (10 * i) z) ?_
        refine w_ialdN (e := ((10 * i) + z)) (v := (M 168 ((10 * i) + z))) i_129_156 hκ (⟨rfl, rfl, by decide⟩ : isAr 168 100) (by omega) (by decide) (rfl) ?_
        refine w_load i_129_157 rfl rfl ?_
        refine w_getR 168 i_129_158 hκ (⟨rfl, by decide⟩ : isOb 134 7) rfl rfl ?_
        refine w_push i_129_161 rfl ?_
        refine w_load i_129_163 rfl rfl ?_
        refine w_bin (w := (nI (10 * z))) i_129_164 rfl (nI_mul 10 z) ?_
        refine w_load i_129_165 rfl rfl ?_
        refine w_bin (w := (nI ((10 * z) + j))) i_129_167 rfl (nI_add (10 * z) j) ?_
        refine w_ialdN (e := ((10 * z) + j)) (v := (M 168 ((10 * z) + j))) i_129_168 hκ (⟨rfl, rfl, by decide⟩ : isAr 168 100) (by omega) (by decide) (rfl) ?_
        refine w_bin (w := ((M 168 ((10 * i) + z)) + (M 168 ((10 * z) + j)))) i_129_169 rfl rfl ?_
        refine w_callV (i := _) i_129_170 ⟨by decide, by decide, by decide, rfl⟩ hκ (⟨rfl, by decide⟩ : isOb 134 7) (av := [.int (M 168 ((10 * i) + j)), .int ((M 168 ((10 * i) + z)) + (M 168 ((10 * z) + j)))]) (rest := [.int (nI ((10 * i) + j)), .ref 168]) rfl rfl (Nat.le_of_ble_eq_true rfl) (v := some (.int (mx (M 168 ((10 * i) + j)) ((M 168 ((10 * i) + z)) + (M 168 ((10 * z) + j)))))) (c121 hκ) ?_
        refine w_iastN (e := ((10 * i) + j)) i_129_173 hκ (⟨rfl, rfl, by decide⟩ : isAr 168 100) (by omega) (by decide) ?_
        exact (by first | exact (K3) | (have K9 := K3; simp only [↓if_pos h4] at K9 ⊢; exact (K9)))
      · intro h5
        exact (by first | exact (K3) | (have K9 := K3; simp only [↓if_neg h5] at K9 ⊢; exact (K9)))
    refine w_if2n ((-100000) < (M 168 ((10 * i) + z))) i_129_87 cI_le ?_ ?_
    · intro h6
      refine w_load i_129_90 rfl rfl ?_
      refine w_getR 168 i_129_91 hκ (⟨rfl, by decide⟩ : isOb 134 7) rfl rfl ?_
      refine w_push i_129_94 rfl ?_
      refine w_load i_129_96 rfl rfl ?_
      refine w_bin (w := (nI (10 * z))) i_129_97 rfl (nI_mul 10 z) ?_
      refine w_load i_129_98 rfl rfl ?_
      refine w_bin (w := (nI ((10 * z) + j))) i_129_100 rfl (nI_add (10 * z) j) ?_
      refine w_ialdN (e := ((10 * z) + j)) (v := (M 168 ((10 * z) + j))) i_129_101 hκ (⟨rfl, rfl, by decide⟩ : isAr 168 100) (by omega) (by decide) (rfl) ?_
      refine w_push i_129_102 rfl ?_
      refine w_if2n ((-100000) < (M 168 ((10 * z) + j))) i_129_104 cI_le ?_ ?_
      · intro h7
        refine w_push i_129_107 rfl ?_
        refine w_goto i_129_108 ?_
        exact (by first | exact (K2) | (have K9 := K2; simp only [↓if_pos h6, ↓if_pos h7] at K9 ⊢; exact (K9)))
      · intro h8
        refine w_push i_129_111 rfl ?_
        exact (by first | exact (K2) | (have K9 := K2; simp only [↓if_pos h6, ↓if_neg h8] at K9 ⊢; exact (K9)))
    · intro h9
      refine w_push i_129_111 rfl ?_
      exact (by first | exact (K2) | (have K9 := K2; simp only [↓if_neg h9] at K9 ⊢; exact (K9)))
  · intro h10
    refine w_iincN (n := i) (l1 := [.ref 134, .int (nI n), UU, .int (nI z), .int (nI (i + 1)), .int (nI j), UU]) 1 i_129_180 rfl rfl ?_
    refine w_goto i_129_183 ?_
    exact w_weak (lle_s (lle_s (lle_s (lle_s (lle_s (lle_u (lle_s lle_n))))))) (k2 h10)
variable {Q : Ou → Prop} {M M0 : Mem} {κ : Kp}
def up2 (F : Nat → Nat → Int32) (x y : Nat) (v : Int32) : Nat → Nat → Int32 := fun a b => if a = x ∧ b = y then v else F a b
def fwS (z x y : Nat) (F : Nat → Nat → Int32) : Nat → Nat → Int32 := if (-100000) < F x z ∧ (-100000) < F z y then up2 F x y (mx (F x y) (F x z + F z y)) else F
def fwR (n z x : Nat) (F : Nat → Nat → Int32) : Nat → Nat → Nat → Int32 := fun m => fo (fun y F => fwS z x y F) F m
def fwX (n z : Nat) (F : Nat → Nat → Int32) : Nat → Nat → Nat → Int32 := fun m => fo (fun x F => fwR n z x F n) F m
def fwZ (n : Nat) (F : Nat → Nat → Int32) : Nat → Nat → Nat → Int32 := fun m => fo (fun z F => fwX n z F n) F m
def psd (F : Nat → Nat → Int32) : Nat → Bool
  | 0 => false
  | k + 1 => if psd F k = true then true else if 0 < F k k then true else false
def wyM (M : Mem) (n : Nat) (F : Nat → Nat → Int32) : Prop := ∀ i j, i < n → j < n → M 168 (10 * i + j) = F i j
section CL
variable {n : Nat} {W : Nat → Nat → Option Int32} {ii : Nat}
def eW (W : Nat → Nat → Option Int32) : Nat → Nat → Int32 := fun i j => enc (-100000) (W i j)
theorem f129 (hκ : Rd κ) (hn : n ≤ 10) (hii : ii ≤ 1000) (hA : Aas7 κ n W ii M0)
    (K : ∀ M1, (∀ o y, ¬ o = 168 → M1 o y = M0 o y) → wyM M1 n (fwZ n (eW W) n) → Q (.inl (some (.int (bI (psd (fwZ n (eW W) n) n)))), M1, κ)) : RT 129 (0, entL 129 [.ref 134, .int (nI n), .int (nI ii)], [], M0, κ) Q := by
  refine S129_0 (i := 0) hκ hn (by omega) (by omega) ?_
  -- the ways of one edge
  refine loopI (n := n) (fun i M => RT 129 (2, [.ref 134, .int (nI n), .int (nI ii), .int (nI i), UU, UU, UU], [], M, κ) Q) (fun i M => (∀ o y, ¬ o = 168 → M o y = M0 o y) ∧ ∀ a b, a < i → b < n → M 168 (10 * a + b) = eW W a b) (fun i M hi hI ih => ?_) (fun M hI => ?_) 0 M0 (Nat.zero_le _) ⟨fun _ _ _ => rfl, fun a b ha => absurd ha (Nat.not_lt_zero a)⟩
  · refine S129_2 hκ hn (by omega) (by omega) (fun _ => ?_) (fun z => absurd hi z)
    refine loopI (n := n) (fun j M => RT 129 (10, [.ref 134, .int (nI n), .int (nI ii), .int (nI i), .int (nI j), UU, UU], [], M, κ) Q) (fun j M => (∀ o y, ¬ o = 168 → M o y = M0 o y) ∧ (∀ a b, a < i → b < n → M 168 (10 * a + b) = eW W a b) ∧ ∀ b, b < j → M 168 (10 * i + b) = eW W i b) (fun j M hj hJ ih2 => ?_) (fun M hJ => ?_) 0 M (Nat.zero_le _) ⟨hI.1, hI.2, fun b hb => absurd hb (Nat.not_lt_zero b)⟩
    · obtain ⟨h1, h2, h3⟩ := hJ
      refine S129_10 (r_32 := eW W i j) hκ hn hi (by omega) (by omega) (fun _ => hA M (fun o y h => h1 o y (by omega)) i j hi hj) (fun _ => ih2 _ ⟨fun o y h => (stM_o h).trans (h1 o y h), fun a b ha hb => ?_, fun b hb => ?_⟩) (fun z => absurd hj z)
      · rw [stM_j (by omega)]
        exact h2 a b ha hb
      · by_cases e : b = j
        · rw [e, stM_s]
        · rw [stM_j (by omega)]
          exact h3 b (by omega)
    · obtain ⟨h1, h2, h3⟩ := hJ
      refine S129_10 (r_32 := 0) hκ hn hi (Nat.le_refl _) (by omega) (fun z => absurd z (Nat.lt_irrefl _)) (fun z => absurd z (Nat.lt_irrefl _)) (fun _ => ih M ⟨h1, fun a b ha hb => ?_⟩)
      by_cases e : a = i
      · rw [e]; exact h3 b hb
      · exact h2 a b (by omega) hb
  · refine S129_2 hκ hn (Nat.le_refl _) (by omega) (fun z => absurd z (Nat.lt_irrefl _)) (fun _ => ?_)
    obtain ⟨h1, h2⟩ := hI
    -- all ways
    refine loopI (n := n) (fun z M => RT 129 (50, [.ref 134, .int (nI n), UU, .int (nI z), UU, UU, UU], [], M, κ) Q) (fun z M => (∀ o y, ¬ o = 168 → M o y = M0 o y) ∧ wyM M n (fwZ n (eW W) z)) (fun z M hz hJ ih => ?_) (fun M hJ => ?_) 0 M (Nat.zero_le _) ⟨h1, h2⟩
    · refine S129_50 hκ hn (by omega) (fun _ => ?_) (fun c => absurd hz c)
      refine loopI (n := n) (fun i M => RT 129 (58, [.ref 134, .int (nI n), UU, .int (nI z), .int (nI i), UU, UU], [], M, κ) Q) (fun i M => (∀ o y, ¬ o = 168 → M o y = M0 o y) ∧ wyM M n (fwX n z (fwZ n (eW W) z) i)) (fun i M hi hK ih2 => ?_) (fun M hK => ?_) 0 M (Nat.zero_le _) hJ
      · refine S129_58 hκ hn (by omega) (by omega) (fun _ => ?_) (fun c => absurd hi c)
        refine loopI (n := n) (fun j M => RT 129 (67, [.ref 134, .int (nI n), UU, .int (nI z), .int (nI i), .int (nI j), UU], [], M, κ) Q) (fun j M => (∀ o y, ¬ o = 168 → M o y = M0 o y) ∧ wyM M n (fwR n z i (fwX n z (fwZ n (eW W) z) i) j)) (fun j M hj hL ih3 => ?_) (fun M hL => ?_) 0 M (Nat.zero_le _) hK
        · obtain ⟨l1, l2⟩ := hL
          refine S129_67 hκ hn hi (by omega) hz (fun _ => ih3 _ ?_) (fun c => absurd hj c)
          have e : fwR n z i (fwX n z (fwZ n (eW W) z) i) (j + 1) = fwS z i j (fwR n z i (fwX n z (fwZ n (eW W) z) i) j) := rfl
          rw [e]
          generalize fwR n z i (fwX n z (fwZ n (eW W) z) i) j = F at l2 ⊢
          rw [l2 i z hi hz, l2 z j hz hj, l2 i j hi hj, fwS]
          by_cases q1 : (-100000) < F i z
          · by_cases q2 : (-100000) < F z j
            · rw [if_pos q1, if_pos q2, if_pos rfl, if_pos ⟨q1, q2⟩]
              refine ⟨fun o y h => (stM_o h).trans (l1 o y h), fun a b ha hb => ?_⟩
              by_cases e : a = i ∧ b = j
              · rw [e.1, e.2, stM_s]
                exact (if_pos ⟨rfl, rfl⟩).symm
              · rw [stM_j (by omega), l2 a b ha hb]
                exact (if_neg e).symm
            · rw [if_pos q1, if_neg q2, if_neg (show ¬ false = true from Bool.false_ne_true), if_neg (fun c => q2 c.2)]
              exact ⟨l1, l2⟩
          · rw [if_neg q1, if_neg (show ¬ false = true from Bool.false_ne_true), if_neg (fun c => q1 c.1)]
            exact ⟨l1, l2⟩
        · exact S129_67 hκ hn hi (Nat.le_refl _) hz (fun c => absurd c (Nat.lt_irrefl _)) (fun _ => ih2 M hL)
      · exact S129_58 hκ hn (Nat.le_refl _) (by omega) (fun c => absurd c (Nat.lt_irrefl _)) (fun _ => ih M hK)
    · refine S129_50 hκ hn (Nat.le_refl _) (fun c => absurd c (Nat.lt_irrefl _)) (fun _ => ?_)
      obtain ⟨l1, l2⟩ := hJ
      refine loopI (n := n) (fun i mo => RT 129 (197, [.ref 134, .int (nI n), UU, .int (bI mo), .int (nI i), UU, UU], [], M, κ) Q) (fun i mo => mo = psd (fwZ n (eW W) n) i) (fun i mo hi hK ih => ?_) (fun mo hK => ?_) 0 false (Nat.zero_le _) rfl
      · refine S129_197 hκ hn (by omega) (fun _ => ih _ ?_) (fun c => absurd hi c)
        have := l2 i i hi hi
        rw [show 10 * i + i = 11 * i by omega] at this
        rw [hK, psd, this]
      · refine S129_197 hκ hn (Nat.le_refl _) (fun c => absurd c (Nat.lt_irrefl _)) (fun _ => ?_)
        rw [hK]
        exact K M l1 l2
end CL
end P_36_closes
