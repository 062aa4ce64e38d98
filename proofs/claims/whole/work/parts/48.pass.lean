/-! RUN: what a block costs, passes -/
section P_48_pass
theorem i_59_0 : ins 59 0 = some (.iload_n 1, 1, 1, 0, 0, 0) := rfl
theorem i_59_1 : ins 59 1 = some (.iconst 1, 2, 0, 0, 0, 1) := rfl
theorem i_59_2 : ins 59 2 = some (.if_icmp .ge 5, 5, 7, 0, 0, 0) := rfl
theorem i_59_5 : ins 59 5 = some (.iconst 1, 6, 0, 0, 0, 1) := rfl
theorem i_59_6 : ins 59 6 = some (.ireturn, 7, 0, 0, 0, 0) := rfl
theorem i_59_7 : ins 59 7 = some (.aload_n 0, 8, 0, 0, 0, 0) := rfl
theorem i_59_8 : ins 59 8 = some (.getfield 18, 11, 5, 2, 0, 0) := rfl
theorem i_59_11 : ins 59 11 = some (.iconst 1, 12, 0, 0, 0, 1) := rfl
theorem i_59_12 : ins 59 12 = some (.if_icmp .ge 12, 15, 24, 0, 0, 0) := rfl
theorem i_59_15 : ins 59 15 = some (.iload_n 1, 16, 1, 0, 0, 0) := rfl
theorem i_59_16 : ins 59 16 = some (.aload_n 0, 17, 0, 0, 0, 0) := rfl
theorem i_59_17 : ins 59 17 = some (.getfield 9, 20, 5, 0, 0, 0) := rfl
theorem i_59_20 : ins 59 20 = some (.imul, 21, 0, 0, 0, 0) := rfl
theorem i_59_21 : ins 59 21 = some (.iconst 1, 22, 0, 0, 0, 1) := rfl
theorem i_59_22 : ins 59 22 = some (.iadd, 23, 0, 0, 0, 0) := rfl
theorem i_59_23 : ins 59 23 = some (.ireturn, 24, 0, 0, 0, 0) := rfl
theorem i_59_24 : ins 59 24 = some (.iload_n 1, 25, 1, 0, 0, 0) := rfl
theorem i_59_25 : ins 59 25 = some (.aload_n 0, 26, 0, 0, 0, 0) := rfl
theorem i_59_26 : ins 59 26 = some (.getfield 21, 29, 5, 3, 0, 0) := rfl
theorem i_59_29 : ins 59 29 = some (.iadd, 30, 0, 0, 0, 0) := rfl
theorem i_59_30 : ins 59 30 = some (.iconst 1, 31, 0, 0, 0, 1) := rfl
theorem i_59_31 : ins 59 31 = some (.isub, 32, 0, 0, 0, 0) := rfl
theorem i_59_32 : ins 59 32 = some (.aload_n 0, 33, 0, 0, 0, 0) := rfl
theorem i_59_33 : ins 59 33 = some (.getfield 18, 36, 5, 2, 0, 0) := rfl
theorem i_59_36 : ins 59 36 = some (.imul, 37, 0, 0, 0, 0) := rfl
theorem i_59_37 : ins 59 37 = some (.iload_n 1, 38, 1, 0, 0, 0) := rfl
theorem i_59_38 : ins 59 38 = some (.iconst 1, 39, 0, 0, 0, 1) := rfl
theorem i_59_39 : ins 59 39 = some (.isub, 40, 0, 0, 0, 0) := rfl
theorem i_59_40 : ins 59 40 = some (.aload_n 0, 41, 0, 0, 0, 0) := rfl
theorem i_59_41 : ins 59 41 = some (.getfield 18, 44, 5, 2, 0, 0) := rfl
theorem i_59_44 : ins 59 44 = some (.imul, 45, 0, 0, 0, 0) := rfl
theorem i_59_45 : ins 59 45 = some (.aload_n 0, 46, 0, 0, 0, 0) := rfl
theorem i_59_46 : ins 59 46 = some (.getfield 24, 49, 5, 4, 0, 0) := rfl
theorem i_59_49 : ins 59 49 = some (.iadd, 50, 0, 0, 0, 0) := rfl
theorem i_59_50 : ins 59 50 = some (.invokestatic 37, 53, 164, 1, 2, 0) := rfl
theorem i_59_53 : ins 59 53 = some (.iconst 1, 54, 0, 0, 0, 1) := rfl
theorem i_59_54 : ins 59 54 = some (.iadd, 55, 0, 0, 0, 0) := rfl
theorem i_59_55 : ins 59 55 = some (.ireturn, 56, 0, 0, 0, 0) := rfl
theorem S59_0 {Q : Ou → Prop} {M : Mem} {κ : Kp} (hκ : Rd κ) {p : Nat} (hp : isPl p) {ti : Int32}
    (k1 : ti < 1 → Q (.inl (some (.int 1)), M, κ))
    (k2 : ¬ (ti < 1) → (M p 2) < 1 → Q (.inl (some (.int ((ti * (M p 0)) + 1))), M, κ))
    (k3 : ¬ (ti < 1) → ¬ ((M p 2) < 1) → Q (.inl (some (.int ((mx (((ti + (M p 3)) - 1) * (M p 2)) (((ti - 1) * (M p 2)) + (M p 4))) + 1))), M, κ))
    : RT 59 (0, [.ref p, .int ti], [], M, κ) Q := by
  refine w_load i_59_0 rfl rfl ?_
  refine w_push i_59_1 rfl ?_
  refine w_if2n (ti < 1) i_59_2 cI_ge ?_ ?_
  · intro h1
    refine w_push i_59_5 rfl ?_
    exact w_iret i_59_6 (.inl rfl) (k1 h1)
  · intro h2
    refine w_load i_59_7 rfl rfl ?_
    refine w_getI (v := (M p 2)) i_59_8 hκ (pl_ob hp) rfl (rfl) ?_
    refine w_push i_59_11 rfl ?_
    refine w_if2n ((M p 2) < 1) i_59_12 cI_ge ?_ ?_
    · intro h3
      refine w_load i_59_15 rfl rfl ?_
      refine w_load i_59_16 rfl rfl ?_
      refine w_getI (v := (M p 0)) i_59_17 hκ (pl_ob hp) rfl (rfl) ?_
      refine w_bin (w := (ti * (M p 0))) i_59_20 rfl rfl ?_
      refine w_push i_59_21 rfl ?_
      refine w_bin (w := ((ti * (M p 0)) + 1)) i_59_22 rfl rfl ?_
      exact w_iret i_59_23 (.inl rfl) (k2 h2 h3)
    · intro h4
      refine w_load i_59_24 rfl rfl ?_
      refine w_load i_59_25 rfl rfl ?_
      refine w_getI (v := (M p 3)) i_59_26 hκ (pl_ob hp) rfl (rfl) ?_
      refine w_bin (w := (ti + (M p 3))) i_59_29 rfl rfl ?_
      refine w_push i_59_30 rfl ?_
      refine w_bin (w := ((ti + (M p 3)) - 1)) i_59_31 rfl rfl ?_
      refine w_load i_59_32 rfl rfl ?_
      refine w_getI (v := (M p 2)) i_59_33 hκ (pl_ob hp) rfl (rfl) ?_
      refine w_bin (w := (((ti + (M p 3)) - 1) * (M p 2))) i_59_36 rfl rfl ?_
      refine w_load i_59_37 rfl rfl ?_
      refine w_push i_59_38 rfl ?_
      refine w_bin (w := (ti - 1)) i_59_39 rfl rfl ?_
      refine w_load i_59_40 rfl rfl ?_
      refine w_getI (v := (M p 2)) i_59_41 hκ (pl_ob hp) rfl (rfl) ?_
      refine w_bin (w := ((ti - 1) * (M p 2))) i_59_44 rfl rfl ?_
      refine w_load i_59_45 rfl rfl ?_
      refine w_getI (v := (M p 4)) i_59_46 hκ (pl_ob hp) rfl (rfl) ?_
      refine w_bin (w := (((ti - 1) * (M p 2)) + (M p 4))) i_59_49 rfl rfl ?_
      refine w_mmax i_59_50 rfl (by decide) (Nat.le_of_ble_eq_true rfl) ?_
      refine w_push i_59_53 rfl ?_
      refine w_bin (w := ((mx (((ti + (M p 3)) - 1) * (M p 2)) (((ti - 1) * (M p 2)) + (M p 4))) + 1)) i_59_54 rfl rfl ?_
      exact w_iret i_59_55 (.inl rfl) (k3 h2 h4)
theorem i_60_0 : ins 60 0 = some (.iload_n 1, 1, 1, 0, 0, 0) := rfl
theorem i_60_1 : ins 60 1 = some (.aload_n 0, 2, 0, 0, 0, 0) := rfl
theorem i_60_2 : ins 60 2 = some (.invokevirtual 43, 5, 58, 0, 1, 0) := rfl
theorem i_60_5 : ins 60 5 = some (.imul, 6, 0, 0, 0, 0) := rfl
theorem i_60_6 : ins 60 6 = some (.aload_n 0, 7, 0, 0, 0, 0) := rfl
theorem i_60_7 : ins 60 7 = some (.getfield 18, 10, 5, 2, 0, 0) := rfl
theorem i_60_10 : ins 60 10 = some (.ifCond .le 12, 13, 22, 0, 0, 0) := rfl
theorem i_60_13 : ins 60 13 = some (.aload_n 0, 14, 0, 0, 0, 0) := rfl
theorem i_60_14 : ins 60 14 = some (.getfield 34, 17, 5, 7, 0, 0) := rfl
theorem i_60_17 : ins 60 17 = some (.iload_n 2, 18, 2, 0, 0, 0) := rfl
theorem i_60_18 : ins 60 18 = some (.iaload, 19, 0, 0, 0, 0) := rfl
theorem i_60_19 : ins 60 19 = some (.goto 9, 22, 28, 0, 0, 0) := rfl
theorem i_60_22 : ins 60 22 = some (.aload_n 0, 23, 0, 0, 0, 0) := rfl
theorem i_60_23 : ins 60 23 = some (.getfield 31, 26, 5, 6, 0, 0) := rfl
theorem i_60_26 : ins 60 26 = some (.iload_n 2, 27, 2, 0, 0, 0) := rfl
theorem i_60_27 : ins 60 27 = some (.iaload, 28, 0, 0, 0, 0) := rfl
theorem i_60_28 : ins 60 28 = some (.iadd, 29, 0, 0, 0, 0) := rfl
theorem i_60_29 : ins 60 29 = some (.iconst 1, 30, 0, 0, 0, 1) := rfl
theorem i_60_30 : ins 60 30 = some (.iadd, 31, 0, 0, 0, 0) := rfl
theorem i_60_31 : ins 60 31 = some (.ireturn, 32, 0, 0, 0, 0) := rfl
theorem S60_0 {Q : Ou → Prop} {M : Mem} {κ : Kp} (hκ : Rd κ) {p k : Nat} (hp : isPl p) (hk : k < 10) {pa : Int32} {r_2 : Int32}
    (o1 : Run 58 (0, entL 58 [.ref p], [], M, κ) (.inl (some (.int r_2)), M, κ))
    (k1 : Q (.inl (some (.int (((pa * r_2) + (if 0 < (M p 2) then (M (p + 3) k) else (M (p + 2) k))) + 1))), M, κ))
    : RT 60 (0, [.ref p, .int pa, .int (nI k)], [], M, κ) Q := by
  refine w_load i_60_0 rfl rfl ?_
  refine w_load i_60_1 rfl rfl ?_
  refine w_callV (i := _) i_60_2 ⟨by decide, by decide, by decide, rfl⟩ hκ (pl_ob hp) (av := []) (rest := [.int pa]) rfl rfl (Nat.le_of_ble_eq_true rfl) (v := some (.int r_2)) (o1) ?_
  refine w_bin (w := (pa * r_2)) i_60_5 rfl rfl ?_
  refine w_load i_60_6 rfl rfl ?_
  refine w_getI (v := (M p 2)) i_60_7 hκ (pl_ob hp) rfl (rfl) ?_
  have K1 : RT 60 (28, [.ref p, .int pa, .int (nI k)], [.int (if 0 < (M p 2) then (M (p + 3) k) else (M (p + 2) k)), .int (pa * r_2)], M, κ) Q := by
    refine w_bin (w := ((pa * r_2) + (if 0 < (M p 2) then (M (p + 3) k) else (M (p + 2) k)))) i_60_28 rfl rfl ?_
    refine w_push i_60_29 rfl ?_
    refine w_bin (w := (((pa * r_2) + (if 0 < (M p 2) then (M (p + 3) k) else (M (p + 2) k))) + 1)) i_60_30 rfl rfl ?_
    exact w_iret i_60_31 (.inl rfl) (k1)
  refine w_if0n (0 < (M p 2)) i_60_10 cI0_le ?_ ?_
  · intro h2
    refine w_load i_60_13 rfl rfl ?_
    refine w_getR (p + 3) i_60_14 hκ (pl_ob hp) rfl rfl ?_
    refine w_load i_60_17 rfl rfl ?_
    refine w_ialdN (e := k) (v := (M (p + 3) k)) i_60_18 hκ (pl_ar hp 3 (by decide)) (by omega) (by decide) (rfl) ?_
    refine w_goto i_60_19 ?_
    exact (by first | exact (K1) | (have K9 := K1; simp only [↓if_pos h2] at K9 ⊢; exact (K9)))
  · intro h3
    refine w_load i_60_22 rfl rfl ?_
    refine w_getR (p + 2) i_60_23 hκ (pl_ob hp) rfl rfl ?_
    refine w_load i_60_26 rfl rfl ?_
    refine w_ialdN (e := k) (v := (M (p + 2) k)) i_60_27 hκ (pl_ar hp 2 (by decide)) (by omega) (by decide) (rfl) ?_
    exact (by first | exact (K1) | (have K9 := K1; simp only [↓if_neg h3] at K9 ⊢; exact (K9)))
theorem i_141_0 : ins 141 0 = some (.aload_n 0, 1, 0, 0, 0, 0) := rfl
theorem i_141_1 : ins 141 1 = some (.getfield 66, 4, 7, 22, 0, 0) := rfl
theorem i_141_4 : ins 141 4 = some (.iload_n 1, 5, 1, 0, 0, 0) := rfl
theorem i_141_5 : ins 141 5 = some (.iaload, 6, 0, 0, 0, 0) := rfl
theorem i_141_6 : ins 141 6 = some (.iconst 3, 7, 0, 0, 0, 3) := rfl
theorem i_141_7 : ins 141 7 = some (.if_icmp .eq 10, 10, 17, 0, 0, 0) := rfl
theorem i_141_10 : ins 141 10 = some (.aload_n 0, 11, 0, 0, 0, 0) := rfl
theorem i_141_11 : ins 141 11 = some (.getfield 108, 14, 7, 36, 0, 0) := rfl
theorem i_141_14 : ins 141 14 = some (.iload_n 1, 15, 1, 0, 0, 0) := rfl
theorem i_141_15 : ins 141 15 = some (.iaload, 16, 0, 0, 0, 0) := rfl
theorem i_141_16 : ins 141 16 = some (.ireturn, 17, 0, 0, 0, 0) := rfl
theorem i_141_17 : ins 141 17 = some (.iload_n 2, 18, 2, 0, 0, 0) := rfl
theorem i_141_18 : ins 141 18 = some (.iconst 1, 19, 0, 0, 0, 1) := rfl
theorem i_141_19 : ins 141 19 = some (.if_icmp .ge 5, 22, 24, 0, 0, 0) := rfl
theorem i_141_22 : ins 141 22 = some (.iconst 0, 23, 0, 0, 0, 0) := rfl
theorem i_141_23 : ins 141 23 = some (.ireturn, 24, 0, 0, 0, 0) := rfl
theorem i_141_24 : ins 141 24 = some (.aload_n 0, 25, 0, 0, 0, 0) := rfl
theorem i_141_25 : ins 141 25 = some (.getfield 114, 28, 7, 38, 0, 0) := rfl
theorem i_141_28 : ins 141 28 = some (.iload_n 1, 29, 1, 0, 0, 0) := rfl
theorem i_141_29 : ins 141 29 = some (.iaload, 30, 0, 0, 0, 0) := rfl
theorem i_141_30 : ins 141 30 = some (.ifCond .ne 12, 33, 42, 0, 0, 0) := rfl
theorem i_141_33 : ins 141 33 = some (.iload_n 2, 34, 2, 0, 0, 0) := rfl
theorem i_141_34 : ins 141 34 = some (.aload_n 0, 35, 0, 0, 0, 0) := rfl
theorem i_141_35 : ins 141 35 = some (.getfield 108, 38, 7, 36, 0, 0) := rfl
theorem i_141_38 : ins 141 38 = some (.iload_n 1, 39, 1, 0, 0, 0) := rfl
theorem i_141_39 : ins 141 39 = some (.iaload, 40, 0, 0, 0, 0) := rfl
theorem i_141_40 : ins 141 40 = some (.imul, 41, 0, 0, 0, 0) := rfl
theorem i_141_41 : ins 141 41 = some (.ireturn, 42, 0, 0, 0, 0) := rfl
theorem i_141_42 : ins 141 42 = some (.iconst 0, 43, 0, 0, 0, 0) := rfl
theorem i_141_43 : ins 141 43 = some (.istore_n 3, 44, 3, 0, 0, 0) := rfl
theorem i_141_44 : ins 141 44 = some (.bipush 10, 46, 0, 0, 0, 10) := rfl
theorem i_141_46 : ins 141 46 = some (.iload_n 1, 47, 1, 0, 0, 0) := rfl
theorem i_141_47 : ins 141 47 = some (.imul, 48, 0, 0, 0, 0) := rfl
theorem i_141_48 : ins 141 48 = some (.istore 4, 50, 4, 0, 0, 0) := rfl
theorem S141_0 {Q : Ou → Prop} {M : Mem} {κ : Kp} (hκ : Rd κ) {x len ii : Nat} {e : Int32} (hx : x < 6) (hl8 : len ≤ 80) (hi8 : ii ≤ 80) (he : M 147 x = e) (hlen : M 161 x = nI len) (hii : M 163 x = nI ii) {ti : Int32}
    (k1 : e = 3 → ti < 1 → Q (.inl (some (.int 0)), M, κ))
    (k2 : e = 3 → ¬ (ti < 1) → ii = 0 → Q (.inl (some (.int (ti * (nI len)))), M, κ))
    (k3 : e = 3 → ¬ (ti < 1) → ¬ (ii = 0) → RT 141 (50, [.ref 134, .int (nI x), .int ti, .int 0, .int (nI (10 * x))], [], M, κ) Q)
    (k4 : ¬ (e = 3) → Q (.inl (some (.int (nI len))), M, κ))
    : RT 141 (0, [.ref 134, .int (nI x), .int ti, UU, UU], [], M, κ) Q := by
  refine w_load i_141_0 rfl rfl ?_
  refine w_getR 147 i_141_1 hκ (⟨rfl, by decide⟩ : isOb 134 7) rfl rfl ?_
  refine w_load i_141_4 rfl rfl ?_
  refine w_ialdN (e := x) (v := e) i_141_5 hκ (⟨rfl, rfl, by decide⟩ : isAr 147 6) (by omega) (by decide) (he) ?_
  refine w_push i_141_6 rfl ?_
  refine w_if2 (e = 3) i_141_7 cI_eq ?_ ?_
  · intro h1
    refine w_load i_141_17 rfl rfl ?_
    refine w_push i_141_18 rfl ?_
    refine w_if2n (ti < 1) i_141_19 cI_ge ?_ ?_
    · intro h2
      refine w_push i_141_22 rfl ?_
      exact w_iret i_141_23 (.inl rfl) (k1 h1 h2)
    · intro h3
      refine w_load i_141_24 rfl rfl ?_
      refine w_getR 163 i_141_25 hκ (⟨rfl, by decide⟩ : isOb 134 7) rfl rfl ?_
      refine w_load i_141_28 rfl rfl ?_
      refine w_ialdN (e := x) (v := (nI ii)) i_141_29 hκ (⟨rfl, rfl, by decide⟩ : isAr 163 6) (by omega) (by decide) (hii) ?_
      refine w_if0n (ii = 0) i_141_30 (cZ_ne (a := ii) (by omega) (by decide)) ?_ ?_
      · intro h4
        refine w_load i_141_33 rfl rfl ?_
        refine w_load i_141_34 rfl rfl ?_
        refine w_getR 161 i_141_35 hκ (⟨rfl, by decide⟩ : isOb 134 7) rfl rfl ?_
        refine w_load i_141_38 rfl rfl ?_
        refine w_ialdN (e := x) (v := (nI len)) i_141_39 hκ (⟨rfl, rfl, by decide⟩ : isAr 161 6) (by omega) (by decide) (hlen) ?_
        refine w_bin (w := (ti * (nI len))) i_141_40 rfl rfl ?_
        exact w_iret i_141_41 (.inl rfl) (k2 h1 h3 h4)
      · intro h5
        refine w_push i_141_42 rfl ?_
        refine w_store (l1 := [.ref 134, .int (nI x), .int ti, .int 0, UU]) i_141_43 rfl (Nat.le_of_ble_eq_true rfl) rfl ?_
        refine w_push i_141_44 rfl ?_
        refine w_load i_141_46 rfl rfl ?_
        refine w_bin (w := (nI (10 * x))) i_141_47 rfl (nI_mul 10 x) ?_
        refine w_store (l1 := [.ref 134, .int (nI x), .int ti, .int 0, .int (nI (10 * x))]) i_141_48 rfl (Nat.le_of_ble_eq_true rfl) rfl ?_
        exact (k3 h1 h3 h5)
  · intro h6
    refine w_load i_141_10 rfl rfl ?_
    refine w_getR 161 i_141_11 hκ (⟨rfl, by decide⟩ : isOb 134 7) rfl rfl ?_
    refine w_load i_141_14 rfl rfl ?_
    refine w_ialdN (e := x) (v := (nI len)) i_141_15 hκ (⟨rfl, rfl, by decide⟩ : isAr 161 6) (by omega) (by decide) (hlen) ?_
    exact w_iret i_141_16 (.inl rfl) (k4 h6)
theorem i_141_50 : ins 141 50 = some (.iload 4, 52, 4, 0, 0, 0) := rfl
theorem i_141_52 : ins 141 52 = some (.bipush 10, 54, 0, 0, 0, 10) := rfl
theorem i_141_54 : ins 141 54 = some (.iload_n 1, 55, 1, 0, 0, 0) := rfl
theorem i_141_55 : ins 141 55 = some (.imul, 56, 0, 0, 0, 0) := rfl
theorem i_141_56 : ins 141 56 = some (.aload_n 0, 57, 0, 0, 0, 0) := rfl
theorem i_141_57 : ins 141 57 = some (.getfield 78, 60, 7, 26, 0, 0) := rfl
theorem i_141_60 : ins 141 60 = some (.iload_n 1, 61, 1, 0, 0, 0) := rfl
theorem i_141_61 : ins 141 61 = some (.iaload, 62, 0, 0, 0, 0) := rfl
theorem i_141_62 : ins 141 62 = some (.iadd, 63, 0, 0, 0, 0) := rfl
theorem i_141_63 : ins 141 63 = some (.if_icmp .ge 29, 66, 92, 0, 0, 0) := rfl
theorem i_141_66 : ins 141 66 = some (.aload_n 0, 67, 0, 0, 0, 0) := rfl
theorem i_141_67 : ins 141 67 = some (.iload_n 3, 68, 3, 0, 0, 0) := rfl
theorem i_141_68 : ins 141 68 = some (.aload_n 0, 69, 0, 0, 0, 0) := rfl
theorem i_141_69 : ins 141 69 = some (.getfield 105, 72, 7, 35, 0, 0) := rfl
theorem i_141_72 : ins 141 72 = some (.iload 4, 74, 4, 0, 0, 0) := rfl
theorem i_141_74 : ins 141 74 = some (.iaload, 75, 0, 0, 0, 0) := rfl
theorem i_141_75 : ins 141 75 = some (.aload_n 0, 76, 0, 0, 0, 0) := rfl
theorem i_141_76 : ins 141 76 = some (.iload 4, 78, 4, 0, 0, 0) := rfl
theorem i_141_78 : ins 141 78 = some (.invokevirtual 229, 81, 115, 0, 2, 0) := rfl
theorem i_141_81 : ins 141 81 = some (.iadd, 82, 0, 0, 0, 0) := rfl
theorem i_141_82 : ins 141 82 = some (.invokevirtual 233, 85, 121, 0, 3, 0) := rfl
theorem i_141_85 : ins 141 85 = some (.istore_n 3, 86, 3, 0, 0, 0) := rfl
theorem i_141_86 : ins 141 86 = some (.iinc 4 1, 89, 4, 0, 0, 1) := rfl
theorem i_141_89 : ins 141 89 = some (.goto (-39), 92, 50, 0, 0, 0) := rfl
theorem i_141_92 : ins 141 92 = some (.aload_n 0, 93, 0, 0, 0, 0) := rfl
theorem i_141_93 : ins 141 93 = some (.iload_n 2, 94, 2, 0, 0, 0) := rfl
theorem i_141_94 : ins 141 94 = some (.aload_n 0, 95, 0, 0, 0, 0) := rfl
theorem i_141_95 : ins 141 95 = some (.getfield 117, 98, 7, 39, 0, 0) := rfl
theorem i_141_98 : ins 141 98 = some (.iload_n 1, 99, 1, 0, 0, 0) := rfl
theorem i_141_99 : ins 141 99 = some (.iaload, 100, 0, 0, 0, 0) := rfl
theorem i_141_100 : ins 141 100 = some (.iadd, 101, 0, 0, 0, 0) := rfl
theorem i_141_101 : ins 141 101 = some (.iconst 1, 102, 0, 0, 0, 1) := rfl
theorem i_141_102 : ins 141 102 = some (.isub, 103, 0, 0, 0, 0) := rfl
theorem i_141_103 : ins 141 103 = some (.aload_n 0, 104, 0, 0, 0, 0) := rfl
theorem i_141_104 : ins 141 104 = some (.getfield 114, 107, 7, 38, 0, 0) := rfl
theorem i_141_107 : ins 141 107 = some (.iload_n 1, 108, 1, 0, 0, 0) := rfl
theorem i_141_108 : ins 141 108 = some (.iaload, 109, 0, 0, 0, 0) := rfl
theorem i_141_109 : ins 141 109 = some (.imul, 110, 0, 0, 0, 0) := rfl
theorem i_141_110 : ins 141 110 = some (.iload_n 2, 111, 2, 0, 0, 0) := rfl
theorem i_141_111 : ins 141 111 = some (.iconst 1, 112, 0, 0, 0, 1) := rfl
theorem i_141_112 : ins 141 112 = some (.isub, 113, 0, 0, 0, 0) := rfl
theorem i_141_113 : ins 141 113 = some (.aload_n 0, 114, 0, 0, 0, 0) := rfl
theorem i_141_114 : ins 141 114 = some (.getfield 114, 117, 7, 38, 0, 0) := rfl
theorem i_141_117 : ins 141 117 = some (.iload_n 1, 118, 1, 0, 0, 0) := rfl
theorem i_141_118 : ins 141 118 = some (.iaload, 119, 0, 0, 0, 0) := rfl
theorem i_141_119 : ins 141 119 = some (.imul, 120, 0, 0, 0, 0) := rfl
theorem i_141_120 : ins 141 120 = some (.iload_n 3, 121, 3, 0, 0, 0) := rfl
theorem i_141_121 : ins 141 121 = some (.iadd, 122, 0, 0, 0, 0) := rfl
theorem i_141_122 : ins 141 122 = some (.invokevirtual 233, 125, 121, 0, 3, 0) := rfl
theorem i_141_125 : ins 141 125 = some (.ireturn, 126, 0, 0, 0, 0) := rfl
theorem S141_50 {Q : Ou → Prop} {M : Mem} {κ : Kp} (hκ : Rd κ) {x n k ii st : Nat} {O : Op} (hx : x < 6) (hn : n ≤ 10) (hk : k ≤ n) (hi8 : ii ≤ 80) (hc : M 151 x = nI n) (hii : M 163 x = nI ii) (hst : M 164 x = nI st) {pl mu di lo : Int32} (hpl : M 134 3 = pl) (hmu : M 134 4 = mu) (hdi : M 134 5 = di) (hlo : M 134 6 = lo) (hO : ∀ f, f < 6 → ∀ j, j < n → M (152 + f) (10 * x + j) = O f j) {ti : Int32} {la : Int32}
    (k1 : ((10 * x) + k) < ((10 * x) + n) → RT 141 (50, [.ref 134, .int (nI x), .int ti, .int (mx la ((M 160 ((10 * x) + k)) + (latF pl mu di lo (O 0 k)))), .int (nI (((10 * x) + k) + 1))], [], M, κ) Q)
    (k2 : ¬ (((10 * x) + k) < ((10 * x) + n)) → Q (.inl (some (.int (mx (((ti + (nI st)) - 1) * (nI ii)) (((ti - 1) * (nI ii)) + la)))), M, κ))
    : RT 141 (50, [.ref 134, .int (nI x), .int ti, .int la, .int (nI ((10 * x) + k))], [], M, κ) Q := by
  refine w_load i_141_50 rfl rfl ?_
  refine w_push i_141_52 rfl ?_
  refine w_load i_141_54 rfl rfl ?_
  refine w_bin (w := (nI (10 * x))) i_141_55 rfl (nI_mul 10 x) ?_
  refine w_load i_141_56 rfl rfl ?_
  refine w_getR 151 i_141_57 hκ (⟨rfl, by decide⟩ : isOb 134 7) rfl rfl ?_
  refine w_load i_141_60 rfl rfl ?_
  refine w_ialdN (e := x) (v := (nI n)) i_141_61 hκ (⟨rfl, rfl, by decide⟩ : isAr 151 6) (by omega) (by decide) (hc) ?_
  refine w_bin (w := (nI ((10 * x) + n))) i_141_62 rfl (nI_add (10 * x) n) ?_
  refine w_if2n (((10 * x) + k) < ((10 * x) + n)) i_141_63 (cN_ge (a := ((10 * x) + k)) (b := ((10 * x) + n)) (by omega) (by omega)) ?_ ?_
  · intro h1
    refine w_load i_141_66 rfl rfl ?_
    refine w_load i_141_67 rfl rfl ?_
    refine w_load i_141_68 rfl rfl ?_
    refine w_getR 160 i_141_69 hκ (⟨rfl, by decide⟩ : isOb 134 7) rfl rfl ?_
    refine w_load i_141_72 rfl rfl ?_
    refine w_ialdN (e := ((10 * x) + k)) (v := (M 160 ((10 * x) + k))) i_141_74 hκ (⟨rfl, rfl, by decide⟩ : isAr 160 60) (by omega) (by decide) (rfl) ?_
    refine w_load i_141_75 rfl rfl ?_
    refine w_load i_141_76 rfl rfl ?_
    refine w_callV (i := _) i_141_78 ⟨by decide, by decide, by decide, rfl⟩ hκ (⟨rfl, by decide⟩ : isOb 134 7) (av := [.int (nI ((10 * x) + k))]) (rest := [.int (M 160 ((10 * x) + k)), .int la, .ref 134]) rfl rfl (Nat.le_of_ble_eq_true rfl) (v := some (.int (latF pl mu di lo (O 0 k)))) (c115 hκ (by omega) (hO 0 (by decide) k (by omega)) (hpl) (hmu) (hdi) (hlo)) ?_
    refine w_bin (w := ((M 160 ((10 * x) + k)) + (latF pl mu di lo (O 0 k)))) i_141_81 rfl rfl ?_
    refine w_callV (i := _) i_141_82 ⟨by decide, by decide, by decide, rfl⟩ hκ (⟨rfl, by decide⟩ : isOb 134 7) (av := [.int la, .int ((M 160 ((10 * x) + k)) + (latF pl mu di lo (O 0 k)))]) (rest := []) rfl rfl (Nat.le_of_ble_eq_true rfl) (v := some (.int (mx la ((M 160 ((10 * x) + k)) + (latF pl mu di lo (O 0 k)))))) (c121 hκ) ?_
    refine w_store (l1 := [.ref 134, .int (nI x), .int ti, .int (mx la ((M 160 ((10 * x) + k)) + (latF pl mu di lo (O 0 k)))), .int (nI ((10 * x) + k))]) i_141_85 rfl (Nat.le_of_ble_eq_true rfl) rfl ?_
    refine w_iincN (n := ((10 * x) + k)) (l1 := [.ref 134, .int (nI x), .int ti, .int (mx la ((M 160 ((10 * x) + k)) + (latF pl mu di lo (O 0 k)))), .int (nI (((10 * x) + k) + 1))]) 1 i_141_86 rfl rfl ?_
    refine w_goto i_141_89 ?_
    exact (k1 h1)
  · intro h2
    refine w_load i_141_92 rfl rfl ?_
    refine w_load i_141_93 rfl rfl ?_
    refine w_load i_141_94 rfl rfl ?_
    refine w_getR 164 i_141_95 hκ (⟨rfl, by decide⟩ : isOb 134 7) rfl rfl ?_
    refine w_load i_141_98 rfl rfl ?_
    refine w_ialdN (e := x) (v := (nI st)) i_141_99 hκ (⟨rfl, rfl, by decide⟩ : isAr 164 6) (by omega) (by decide) (hst) ?_
    refine w_bin (w := (ti + (nI st))) i_141_100 rfl rfl ?_
    refine w_push i_141_101 rfl ?_
    refine w_bin (w := ((ti + (nI st)) - 1)) i_141_102 rfl rfl ?_
    refine w_load i_141_103 rfl rfl ?_
    refine w_getR 163 i_141_104 hκ (⟨rfl, by decide⟩ : isOb 134 7) rfl rfl ?_
    refine w_load i_141_107 rfl rfl ?_
    refine w_ialdN (e := x) (v := (nI ii)) i_141_108 hκ (⟨rfl, rfl, by decide⟩ : isAr 163 6) (by omega) (by decide) (hii) ?_
    refine w_bin (w := (((ti + (nI st)) - 1) * (nI ii))) i_141_109 rfl rfl ?_
    refine w_load i_141_110 rfl rfl ?_
    refine w_push i_141_111 rfl ?_
    refine w_bin (w := (ti - 1)) i_141_112 rfl rfl ?_
    refine w_load i_141_113 rfl rfl ?_
    refine w_getR 163 i_141_114 hκ (⟨rfl, by decide⟩ : isOb 134 7) rfl rfl ?_
    refine w_load i_141_117 rfl rfl ?_
    refine w_ialdN (e := x) (v := (nI ii)) i_141_118 hκ (⟨rfl, rfl, by decide⟩ : isAr 163 6) (by omega) (by decide) (hii) ?_
    refine w_bin (w := ((ti - 1) * (nI ii))) i_141_119 rfl rfl ?_
    refine w_load i_141_120 rfl rfl ?_
    refine w_bin (w := (((ti - 1) * (nI ii)) + la)) i_141_121 rfl rfl ?_
    refine w_callV (i := _) i_141_122 ⟨by decide, by decide, by decide, rfl⟩ hκ (⟨rfl, by decide⟩ : isOb 134 7) (av := [.int (((ti + (nI st)) - 1) * (nI ii)), .int (((ti - 1) * (nI ii)) + la)]) (rest := []) rfl rfl (Nat.le_of_ble_eq_true rfl) (v := some (.int (mx (((ti + (nI st)) - 1) * (nI ii)) (((ti - 1) * (nI ii)) + la)))) (c121 hκ) ?_
    exact w_iret i_141_125 (.inl rfl) (k2 h2)
theorem i_92_0 : ins 92 0 = some (.iconst 0, 1, 0, 0, 0, 0) := rfl
theorem i_92_1 : ins 92 1 = some (.istore 4, 3, 4, 0, 0, 0) := rfl
theorem i_92_3 : ins 92 3 = some (.iload 4, 5, 4, 0, 0, 0) := rfl
theorem i_92_5 : ins 92 5 = some (.iload_n 3, 6, 3, 0, 0, 0) := rfl
theorem i_92_6 : ins 92 6 = some (.if_icmp .ge 56, 9, 62, 0, 0, 0) := rfl
theorem i_92_9 : ins 92 9 = some (.iconst 0, 10, 0, 0, 0, 0) := rfl
theorem i_92_10 : ins 92 10 = some (.istore 5, 12, 5, 0, 0, 0) := rfl
theorem i_92_62 : ins 92 62 = some (.aload_n 2, 63, 2, 0, 0, 0) := rfl
theorem i_92_63 : ins 92 63 = some (.iload_n 3, 64, 3, 0, 0, 0) := rfl
theorem i_92_64 : ins 92 64 = some (.invokevirtual 272, 67, 59, 0, 2, 0) := rfl
theorem S92_0 {Q : Ou → Prop} {M : Mem} {κ : Kp} (hκ : Rd κ) {b p : Nat} (hb : isBl b) (hp : isPl p) {ti : Int32}
    (k1 : RT 92 (3, [.ref 0, .ref b, .ref p, .int ti, .int (nI 0), UU], [], M, κ) Q)
    : RT 92 (0, [.ref 0, .ref b, .ref p, .int ti, UU, UU], [], M, κ) Q := by
  refine w_push i_92_0 rfl ?_
  refine w_store (l1 := [.ref 0, .ref b, .ref p, .int ti, .int 0, UU]) i_92_1 rfl (Nat.le_of_ble_eq_true rfl) rfl ?_
  exact (k1)
theorem S92_3 {Q : Ou → Prop} {M : Mem} {κ : Kp} (hκ : Rd κ) {b p : Nat} (hb : isBl b) (hp : isPl p) {ti : Int32} {pa : Nat} (b_pa : pa ≤ 100000)
    (k1 : (nI pa) < ti → RT 92 (12, [.ref 0, .ref b, .ref p, .int ti, .int (nI pa), .int (nI 0)], [], M, κ) Q)
    (k2 : ¬ ((nI pa) < ti) → RT 59 (0, entL 59 [.ref p, .int ti], [], M, κ) (fun o => ∃ v M1 κ1, o = (.inl v, M1, κ1) ∧ RT 92 (67, [.ref 0, .ref b, .ref p, .int ti, .int (nI pa), UU], v.toList ++ [], M1, κ1) Q))
    : RT 92 (3, [.ref 0, .ref b, .ref p, .int ti, .int (nI pa), UU], [], M, κ) Q := by
  refine w_load i_92_3 rfl rfl ?_
  refine w_load i_92_5 rfl rfl ?_
  refine w_if2n ((nI pa) < ti) i_92_6 cI_ge ?_ ?_
  · intro h1
    refine w_push i_92_9 rfl ?_
    refine w_store (l1 := [.ref 0, .ref b, .ref p, .int ti, .int (nI pa), .int 0]) i_92_10 rfl (Nat.le_of_ble_eq_true rfl) rfl ?_
    exact (k1 h1)
  · intro h2
    refine w_load i_92_62 rfl rfl ?_
    refine w_load i_92_63 rfl rfl ?_
    exact w_callVI (i := _) i_92_64 ⟨by decide, by decide, by decide, rfl⟩ hκ (pl_ob hp) (av := [.int ti]) (rest := []) rfl rfl (Nat.le_of_ble_eq_true rfl) (k2 h2)
theorem i_92_12 : ins 92 12 = some (.iload 5, 14, 5, 0, 0, 0) := rfl
theorem i_92_14 : ins 92 14 = some (.aload_n 1, 15, 1, 0, 0, 0) := rfl
theorem i_92_15 : ins 92 15 = some (.getfield 101, 18, 0, 4, 0, 0) := rfl
theorem i_92_18 : ins 92 18 = some (.if_icmp .ge 38, 21, 56, 0, 0, 0) := rfl
theorem i_92_21 : ins 92 21 = some (.aload_n 0, 22, 0, 0, 0, 0) := rfl
theorem i_92_22 : ins 92 22 = some (.getfield 62, 25, 6, 9, 0, 0) := rfl
theorem i_92_25 : ins 92 25 = some (.aload_n 1, 26, 1, 0, 0, 0) := rfl
theorem i_92_26 : ins 92 26 = some (.iload 5, 28, 5, 0, 0, 0) := rfl
theorem i_92_28 : ins 92 28 = some (.invokevirtual 266, 31, 52, 0, 3, 0) := rfl
theorem i_92_56 : ins 92 56 = some (.iinc 4 1, 59, 4, 0, 0, 1) := rfl
theorem i_92_59 : ins 92 59 = some (.goto (-56), 62, 3, 0, 0, 0) := rfl
theorem S92_12 {Q : Ou → Prop} {M : Mem} {κ : Kp} (hκ : Rd κ) {b p oo n k : Nat} (hb : isBl b) (hp : isPl p) (ho : isOc oo) (hk : k ≤ n) (hn : n ≤ 10) (hc : M b 4 = nI n) (ht9 : M 0 9 = nI oo) {ti : Int32} {pa : Nat} (b_pa : pa ≤ 100000)
    (k1 : k < n → RT 52 (0, entL 52 [.ref oo, .ref b, .int (nI k)], [], M, κ) (fun o => ∃ v M1 κ1, o = (.inl v, M1, κ1) ∧ RT 92 (31, [.ref 0, .ref b, .ref p, .int ti, .int (nI pa), .int (nI k)], v.toList ++ [], M1, κ1) Q))
    (k2 : ¬ (k < n) → RT 92 (3, [.ref 0, .ref b, .ref p, .int ti, .int (nI (pa + 1)), UU], [], M, κ) Q)
    : RT 92 (12, [.ref 0, .ref b, .ref p, .int ti, .int (nI pa), .int (nI k)], [], M, κ) Q := by
  refine w_load i_92_12 rfl rfl ?_
  refine w_load i_92_14 rfl rfl ?_
  refine w_getI (v := (nI n)) i_92_15 hκ (bl_ob hb) rfl (hc) ?_
  refine w_if2n (k < n) i_92_18 (cN_ge (a := k) (b := n) (by omega) (by omega)) ?_ ?_
  · intro h1
    refine w_load i_92_21 rfl rfl ?_
    refine w_getD oo i_92_22 hκ (⟨rfl, by decide⟩ : isOb 0 6) rfl (ht9) (oc_pos ho) ?_
    refine w_load i_92_25 rfl rfl ?_
    refine w_load i_92_26 rfl rfl ?_
    exact w_callVI (i := _) i_92_28 ⟨by decide, by decide, by decide, rfl⟩ hκ (oc_ob ho) (av := [.ref b, .int (nI k)]) (rest := []) rfl rfl (Nat.le_of_ble_eq_true rfl) (k1 h1)
  · intro h2
    refine w_iincN (n := pa) (l1 := [.ref 0, .ref b, .ref p, .int ti, .int (nI (pa + 1)), .int (nI k)]) 1 i_92_56 rfl rfl ?_
    refine w_goto i_92_59 ?_
    exact w_weak (lle_s (lle_s (lle_s (lle_s (lle_s (lle_u lle_n)))))) (k2 h2)
theorem i_92_31 : ins 92 31 = some (.aload_n 0, 32, 0, 0, 0, 0) := rfl
theorem i_92_32 : ins 92 32 = some (.getfield 62, 35, 6, 9, 0, 0) := rfl
theorem i_92_35 : ins 92 35 = some (.getfield 147, 38, 4, 2, 0, 0) := rfl
theorem i_92_38 : ins 92 38 = some (.ifCond .eq 12, 41, 50, 0, 0, 0) := rfl
theorem i_92_41 : ins 92 41 = some (.aload_n 2, 42, 2, 0, 0, 0) := rfl
theorem i_92_42 : ins 92 42 = some (.iload 4, 44, 4, 0, 0, 0) := rfl
theorem i_92_44 : ins 92 44 = some (.iload 5, 46, 5, 0, 0, 0) := rfl
theorem i_92_46 : ins 92 46 = some (.invokevirtual 269, 49, 60, 0, 3, 0) := rfl
theorem i_92_50 : ins 92 50 = some (.iinc 5 1, 53, 5, 0, 0, 1) := rfl
theorem i_92_53 : ins 92 53 = some (.goto (-41), 56, 12, 0, 0, 0) := rfl
theorem S92_31 {Q : Ou → Prop} {M : Mem} {κ : Kp} (hκ : Rd κ) {b p oo : Nat} (hb : isBl b) (hp : isPl p) (ho : isOc oo) (ht9 : M 0 9 = nI oo) {ti : Int32} {pa : Nat} {k : Nat} (b_pa : pa ≤ 100000) (b_k : k ≤ 100000)
    (k1 : (M oo 2) = 0 → RT 92 (12, [.ref 0, .ref b, .ref p, .int ti, .int (nI pa), .int (nI (k + 1))], [], M, κ) Q)
    (k2 : ¬ ((M oo 2) = 0) → RT 60 (0, entL 60 [.ref p, .int (nI pa), .int (nI k)], [], M, κ) (fun o => ∃ v M1 κ1, o = (.inl v, M1, κ1) ∧ RT 92 (49, [.ref 0, .ref b, .ref p, .int ti, .int (nI pa), .int (nI k)], v.toList ++ [], M1, κ1) Q))
    : RT 92 (31, [.ref 0, .ref b, .ref p, .int ti, .int (nI pa), .int (nI k)], [], M, κ) Q := by
  refine w_load i_92_31 rfl rfl ?_
  refine w_getD oo i_92_32 hκ (⟨rfl, by decide⟩ : isOb 0 6) rfl (ht9) (oc_pos ho) ?_
  refine w_getI (v := (M oo 2)) i_92_35 hκ (oc_ob ho) rfl (rfl) ?_
  refine w_if0 ((M oo 2) = 0) i_92_38 cI0_eq ?_ ?_
  · intro h1
    refine w_iincN (n := k) (l1 := [.ref 0, .ref b, .ref p, .int ti, .int (nI pa), .int (nI (k + 1))]) 1 i_92_50 rfl rfl ?_
    refine w_goto i_92_53 ?_
    exact (k1 h1)
  · intro h2
    refine w_load i_92_41 rfl rfl ?_
    refine w_load i_92_42 rfl rfl ?_
    refine w_load i_92_44 rfl rfl ?_
    exact w_callVI (i := _) i_92_46 ⟨by decide, by decide, by decide, rfl⟩ hκ (pl_ob hp) (av := [.int (nI pa), .int (nI k)]) (rest := []) rfl rfl (Nat.le_of_ble_eq_true rfl) (k2 h2)
theorem i_92_49 : ins 92 49 = some (.ireturn, 50, 0, 0, 0, 0) := rfl
theorem i_92_67 : ins 92 67 = some (.ireturn, 68, 0, 0, 0, 0) := rfl
theorem S92_67 {Q : Ou → Prop} {M : Mem} {κ : Kp} (hκ : Rd κ)  {cy : Int32}
    (k1 : Q (.inl (some (.int cy)), M, κ))
    : RT 92 (67, [UU, UU, UU, UU, UU, UU], [.int cy], M, κ) Q := by
  exact w_iret i_92_67 (.inl rfl) (k1)
theorem S92_49 {Q : Ou → Prop} {M : Mem} {κ : Kp} (hκ : Rd κ)  {cy : Int32}
    (k1 : Q (.inl (some (.int cy)), M, κ))
    : RT 92 (49, [UU, UU, UU, UU, UU, UU], [.int cy], M, κ) Q := by
  exact w_iret i_92_49 (.inl rfl) (k1)
theorem i_140_0 : ins 140 0 = some (.bipush 10, 2, 0, 0, 0, 10) := rfl
theorem i_140_2 : ins 140 2 = some (.iload_n 1, 3, 1, 0, 0, 0) := rfl
theorem i_140_3 : ins 140 3 = some (.imul, 4, 0, 0, 0, 0) := rfl
theorem i_140_4 : ins 140 4 = some (.istore_n 2, 5, 2, 0, 0, 0) := rfl
theorem S140_0 {Q : Ou → Prop} {M : Mem} {κ : Kp} (hκ : Rd κ) {x : Nat} (hx : x < 6) 
    (k1 : RT 140 (5, [.ref 134, .int (nI x), .int (nI (10 * x))], [], M, κ) Q)
    : RT 140 (0, [.ref 134, .int (nI x), UU], [], M, κ) Q := by
  refine w_push i_140_0 rfl ?_
  refine w_load i_140_2 rfl rfl ?_
  refine w_bin (w := (nI (10 * x))) i_140_3 rfl (nI_mul 10 x) ?_
  refine w_store (l1 := [.ref 134, .int (nI x), .int (nI (10 * x))]) i_140_4 rfl (Nat.le_of_ble_eq_true rfl) rfl ?_
  exact (k1)
theorem i_140_5 : ins 140 5 = some (.iload_n 2, 6, 2, 0, 0, 0) := rfl
theorem i_140_6 : ins 140 6 = some (.bipush 10, 8, 0, 0, 0, 10) := rfl
theorem i_140_8 : ins 140 8 = some (.iload_n 1, 9, 1, 0, 0, 0) := rfl
theorem i_140_9 : ins 140 9 = some (.imul, 10, 0, 0, 0, 0) := rfl
theorem i_140_10 : ins 140 10 = some (.aload_n 0, 11, 0, 0, 0, 0) := rfl
theorem i_140_11 : ins 140 11 = some (.getfield 78, 14, 7, 26, 0, 0) := rfl
theorem i_140_14 : ins 140 14 = some (.iload_n 1, 15, 1, 0, 0, 0) := rfl
theorem i_140_15 : ins 140 15 = some (.iaload, 16, 0, 0, 0, 0) := rfl
theorem i_140_16 : ins 140 16 = some (.iadd, 17, 0, 0, 0, 0) := rfl
theorem i_140_17 : ins 140 17 = some (.if_icmp .ge 19, 20, 36, 0, 0, 0) := rfl
theorem i_140_20 : ins 140 20 = some (.aload_n 0, 21, 0, 0, 0, 0) := rfl
theorem i_140_21 : ins 140 21 = some (.iload_n 2, 22, 2, 0, 0, 0) := rfl
theorem i_140_22 : ins 140 22 = some (.invokevirtual 300, 25, 139, 0, 2, 0) := rfl
theorem i_140_36 : ins 140 36 = some (.iconst (-1), 37, 0, 0, 0, (-1)) := rfl
theorem i_140_37 : ins 140 37 = some (.ireturn, 38, 0, 0, 0, 0) := rfl
theorem S140_5 {Q : Ou → Prop} {M : Mem} {κ : Kp} (hκ : Rd κ) {x k n : Nat} (hx : x < 6) (hk : k ≤ n) (hn : n ≤ 10) (hc : M 151 x = nI n) 
    (k1 : ((10 * x) + k) < ((10 * x) + n) → RT 139 (0, entL 139 [.ref 134, .int (nI ((10 * x) + k))], [], M, κ) (fun o => ∃ v M1 κ1, o = (.inl v, M1, κ1) ∧ RT 140 (25, [.ref 134, .int (nI x), .int (nI ((10 * x) + k))], v.toList ++ [], M1, κ1) Q))
    (k2 : ¬ (((10 * x) + k) < ((10 * x) + n)) → Q (.inl (some (.int (-1))), M, κ))
    : RT 140 (5, [.ref 134, .int (nI x), .int (nI ((10 * x) + k))], [], M, κ) Q := by
  refine w_load i_140_5 rfl rfl ?_
  refine w_push i_140_6 rfl ?_
  refine w_load i_140_8 rfl rfl ?_
  refine w_bin (w := (nI (10 * x))) i_140_9 rfl (nI_mul 10 x) ?_
  refine w_load i_140_10 rfl rfl ?_
  refine w_getR 151 i_140_11 hκ (⟨rfl, by decide⟩ : isOb 134 7) rfl rfl ?_
  refine w_load i_140_14 rfl rfl ?_
  refine w_ialdN (e := x) (v := (nI n)) i_140_15 hκ (⟨rfl, rfl, by decide⟩ : isAr 151 6) (by omega) (by decide) (hc) ?_
  refine w_bin (w := (nI ((10 * x) + n))) i_140_16 rfl (nI_add (10 * x) n) ?_
  refine w_if2n (((10 * x) + k) < ((10 * x) + n)) i_140_17 (cN_ge (a := ((10 * x) + k)) (b := ((10 * x) + n)) (by omega) (by omega)) ?_ ?_
  · intro h1
    refine w_load i_140_20 rfl rfl ?_
    refine w_load i_140_21 rfl rfl ?_
    exact w_callVI (i := _) i_140_22 ⟨by decide, by decide, by decide, rfl⟩ hκ (⟨rfl, by decide⟩ : isOb 134 7) (av := [.int (nI ((10 * x) + k))]) (rest := []) rfl rfl (Nat.le_of_ble_eq_true rfl) (k1 h1)
  · intro h2
    refine w_push i_140_36 rfl ?_
    exact w_iret i_140_37 (.inl rfl) (k2 h2)
theorem i_140_25 : ins 140 25 = some (.ifCond .ne 5, 28, 30, 0, 0, 0) := rfl
theorem i_140_28 : ins 140 28 = some (.iload_n 2, 29, 2, 0, 0, 0) := rfl
theorem i_140_29 : ins 140 29 = some (.ireturn, 30, 0, 0, 0, 0) := rfl
theorem i_140_30 : ins 140 30 = some (.iinc 2 1, 33, 2, 0, 0, 1) := rfl
theorem i_140_33 : ins 140 33 = some (.goto (-28), 36, 5, 0, 0, 0) := rfl
theorem S140_25 {Q : Ou → Prop} {M : Mem} {κ : Kp} (hκ : Rd κ) {x k : Nat} (hx : x < 6) (hk : k ≤ 10) {bb : Bool}
    (k1 : bb = true → RT 140 (5, [.ref 134, .int (nI x), .int (nI (((10 * x) + k) + 1))], [], M, κ) Q)
    (k2 : ¬ (bb = true) → Q (.inl (some (.int (nI ((10 * x) + k)))), M, κ))
    : RT 140 (25, [.ref 134, .int (nI x), .int (nI ((10 * x) + k))], [.int (bI bb)], M, κ) Q := by
  refine w_if0 (bb = true) i_140_25 cB_ne ?_ ?_
  · intro h1
    refine w_iincN (n := ((10 * x) + k)) (l1 := [.ref 134, .int (nI x), .int (nI (((10 * x) + k) + 1))]) 1 i_140_30 rfl rfl ?_
    refine w_goto i_140_33 ?_
    exact (k1 h1)
  · intro h2
    refine w_load i_140_28 rfl rfl ?_
    exact w_iret i_140_29 (.inl rfl) (k2 h2)
variable {Q : Ou → Prop} {M M0 : Mem} {κ : Kp}
/-- the numbers of a plan: length, interval, stages, span, cycles by list and by modulo -/
abbrev Pq : Type := Nat × Nat × Nat × Nat × (Nat → Nat) × (Nat → Nat)
def PN (M : Mem) (e : Int32) (n : Nat) (L : Nat → Int32) (p : Nat) (q : Pq) : Prop := M p 0 = nI q.1 ∧ M p 2 = nI q.2.1 ∧ M p 3 = nI q.2.2.1 ∧ M p 4 = nI q.2.2.2.1 ∧ (q.1 ≤ 80 ∧ q.2.1 ≤ 80 ∧ q.2.2.1 ≤ 16 ∧ q.2.2.2.1 ≤ 7000) ∧ (∀ k, k < n → M (p + 2) k = nI (q.2.2.2.2.1 k) ∧ q.2.2.2.2.1 k < q.1) ∧ (0 < q.2.1 → ∀ k, k < n → M (p + 3) k = nI (q.2.2.2.2.2 k) ∧ q.2.2.2.2.2 k ≤ 6100) ∧ (¬ e = 3 → q.2.1 = 0) ∧ (0 < q.2.1 → endF (fun k => nI (q.2.2.2.2.2 k)) L n = nI q.2.2.2.1 ∧ 0 < n) ∧ (n = 0 → q.1 = 0)
theorem endF_gen {n B : Nat} {c L : Nat → Int32} (hB : B ≤ 100000) (hL : Lok L n) (hc : ∀ k, k < n → ∃ a, c k = nI a ∧ a ≤ B) : ∃ len, len ≤ B + 8 ∧ endF c L n = nI len ∧ ∀ k, k < n → (c k).toInt + (L k).toInt ≤ len := by
  have key : ∀ m, m ≤ n → ∃ len : Nat, len ≤ B + 8 ∧ fo (fun k m => mx m (c k + L k)) 0 m = nI len ∧ ∀ k, k < m → (c k).toInt + (L k).toInt ≤ len := fun m => by
    induction m with
    | zero => exact fun _ => ⟨0, by omega, rfl, fun k hk => absurd hk (Nat.not_lt_zero k)⟩
    | succ m ih =>
      intro hm
      obtain ⟨len, h1, h2, h3⟩ := ih (by omega)
      obtain ⟨a, h4, h5⟩ := hc m (by omega)
      have h6 := hL m (by omega)
      have ta : (c m).toInt = a := by rw [h4, nI_toInt (by omega)]
      have hs : (c m + L m).toInt = a + (L m).toInt := by rw [l_add (by omega) (by omega), ta]
      refine ⟨max len (a + (L m).toInt.toNat), by omega, ?_, fun k hk => ?_⟩
      · rw [fo_suc, h2]
        apply Int32.toInt_inj.mp
        rw [mx_toInt, nI_toInt (by omega), nI_toInt (by omega), hs]
        omega
      · by_cases e : k = m
        · rw [e, ta]
          omega
        · have := h3 k (by omega)
          omega
  exact key n (Nat.le_refl n)
theorem srN_hit {f : Nat → Bool} : ∀ d k, srN f d k < k + d → f (srN f d k) = true := fun d => by
  induction d with
  | zero => intro k h; rw [srN] at h; omega
  | succ d ih =>
    intro k h
    rw [srN] at h ⊢
    by_cases q : f k = true
    · rw [if_pos q]; exact q
    · rw [if_neg q] at h ⊢
      exact ih (k + 1) (by omega)
theorem gst_nn {c : Nat → Int32} {i2 : Int32} : ∀ m, 0 ≤ (gst c i2 m).toInt := fun m => by
  induction m with
  | zero => exact Int.le_of_eq c0.symm
  | succ m ih =>
    have e : gst c i2 (m + 1) = mx (gst c i2 m) (dvF (c m) i2) := rfl
    rw [e, mx_toInt]
    omega
theorem PN_of {mp : Mp} {e : Int32} {n p : Nat} {O : Op} (hm : MpOk mp) (hn : n ≤ 10) (h : PC M mp e n O p) : ∃ q, PN M e n (LtO mp O) p q := by
  obtain ⟨c, t0, len, p1, p2, p3, p4, p5, p6, p7, p8, p9⟩ := h
  have hL := LtO_ok hm O n
  have hw := Wfam_W (lp := decide (e = 3)) (O := O) hn hL
  have hcr : ∀ k, k < n → ∃ a, c k = nI a ∧ a ≤ 72 := fun k hk => by
    obtain ⟨a, q1, q2, q3⟩ := (Linv_le p4 hn).2 k hk (sch_full n p5 k hk)
    exact ⟨a, q1, q2⟩
  obtain ⟨len', l1, l2, l3⟩ := endF_rng hL hcr
  have hll : len = len' := nI_inj (by omega) (by omega) (p7.symm.trans l2)
  have hc1 : ∀ k, k < n → M (p + 2) k = nI (c k).toNatClampNeg ∧ (c k).toNatClampNeg < len := fun k hk => by
    obtain ⟨a, h1, h2⟩ := hcr k hk
    have h3 := l3 k hk
    have h4 := hL k hk
    rw [h1, nI_toInt (by omega)] at h3
    refine ⟨by rw [p2 k hk, h1, nI_clamp (by omega)], ?_⟩
    rw [h1, nI_clamp (by omega)]
    omega
  have hn0 : n = 0 → len = 0 := fun h0 => by
    subst h0
    exact nI_inj (by omega) (by omega) (p7.symm.trans rfl)
  unfold MR at p9
  by_cases q1 : decide (e = 3) = true ∧ 0 < n
  · rw [if_pos q1] at p9
    obtain ⟨m1, m2⟩ := p9
    by_cases q2 : iiN n (WF7 n (decide (e = 3)) O (LtO mp O)) (PO O) mp.1 len ≤ len
    · rw [if_pos q2] at m2
      obtain ⟨m3, m4, m5, m6⟩ := m2
      have hmi := miN_le (Pt := PO O) (U := mp.1) hw hn (fun b => (MpU hm b).1)
      have hge := srN_ge (gdI n (WF7 n (decide (e = 3)) O (LtO mp O)) (PO O) mp.1) (len + 1 - miN n (WF7 n (decide (e = 3)) O (LtO mp O)) (PO O) mp.1) (miN n (WF7 n (decide (e = 3)) O (LtO mp O)) (PO O) mp.1)
      have hit := srN_hit (f := gdI n (WF7 n (decide (e = 3)) O (LtO mp O)) (PO O) mp.1) (len + 1 - miN n (WF7 n (decide (e = 3)) O (LtO mp O)) (PO O) mp.1) (miN n (WF7 n (decide (e = 3)) O (LtO mp O)) (PO O) mp.1) (by
        have q2' := q2
        unfold iiN at q2'
        omega)
      have eN : srN (gdI n (WF7 n (decide (e = 3)) O (LtO mp O)) (PO O) mp.1) (len + 1 - miN n (WF7 n (decide (e = 3)) O (LtO mp O)) (PO O) mp.1) (miN n (WF7 n (decide (e = 3)) O (LtO mp O)) (PO O) mp.1) = iiN n (WF7 n (decide (e = 3)) O (LtO mp O)) (PO O) mp.1 len := rfl
      rw [eN] at hit hge
      generalize iiN n (WF7 n (decide (e = 3)) O (LtO mp O)) (PO O) mp.1 len = ii at hit hge q2 m3 m4 m5 m6
      have hgo : goF n (prI n (WF7 n (decide (e = 3)) O (LtO mp O)) ii) (cIF n (WF7 n (decide (e = 3)) O (LtO mp O)) (PO O) mp.1 ii) (nI ii) = true := by
        unfold gdI at hit
        rw [Bool.and_eq_true] at hit
        exact hit.2
      unfold goF at hgo
      by_cases q3 : nx (prI n (WF7 n (decide (e = 3)) O (LtO mp O)) ii) (cIF n (WF7 n (decide (e = 3)) O (LtO mp O)) (PO O) mp.1 ii) n = none
      · rw [if_pos q3] at hgo
        by_cases q4 : 15 < gst (cIF n (WF7 n (decide (e = 3)) O (LtO mp O)) (PO O) mp.1 ii) (nI ii) n
        · rw [if_pos q4] at hgo
          cases hgo
        · have hall : ∀ k, k < n → ∃ a, cIF n (WF7 n (decide (e = 3)) O (LtO mp O)) (PO O) mp.1 ii k = nI a ∧ a ≤ 6000 := fun k hk => by
            rcases (mits_rng (ii := ii) (P := prI n (WF7 n (decide (e = 3)) O (LtO mp O)) ii) (Pt := PO O) (U := mp.1) (hw.1 ii (by omega)) (by omega) (6 * n) (by omega)).1 k hk with h2 | ⟨a, h2, h3⟩
            · exact absurd h2 ((nx_none n).mp q3 k hk)
            · exact ⟨a, h3, by omega⟩
          obtain ⟨sp, s1, s2, s3⟩ := endF_gen (B := 6000) (by omega) hL hall
          have hg0 := gst_nn (c := cIF n (WF7 n (decide (e = 3)) O (LtO mp O)) (PO O) mp.1 ii) (i2 := nI ii) n
          have hg1 : (gst (cIF n (WF7 n (decide (e = 3)) O (LtO mp O)) (PO O) mp.1 ii) (nI ii) n).toInt ≤ 15 := by
            rw [ltI, show (15 : Int32).toInt = 15 by decide] at q4
            omega
          refine ⟨(len, ii, 1 + (gst (cIF n (WF7 n (decide (e = 3)) O (LtO mp O)) (PO O) mp.1 ii) (nI ii) n).toInt.toNat, sp, fun k => (c k).toNatClampNeg, fun k => (cIF n (WF7 n (decide (e = 3)) O (LtO mp O)) (PO O) mp.1 ii k).toNatClampNeg), p6, m3, ?_, ?_, ⟨p8, (by omega : ii ≤ 80), (by omega : 1 + (gst (cIF n (WF7 n (decide (e = 3)) O (LtO mp O)) (PO O) mp.1 ii) (nI ii) n).toInt.toNat ≤ 16), (by omega : sp ≤ 7000)⟩, hc1, fun _ k hk => ?_, fun hne => absurd (of_decide_eq_true q1.1) hne, fun _ => ⟨?_, q1.2⟩, hn0⟩
          · show M p 3 = nI (1 + (gst (cIF n (WF7 n (decide (e = 3)) O (LtO mp O)) (PO O) mp.1 ii) (nI ii) n).toInt.toNat)
            rw [m4, m3]
            apply Int32.toInt_inj.mp
            rw [l_add (by rw [t1]; omega) (by omega), t1, nI_toInt (by omega)]
            omega
          · rw [m5]
            exact s2
          · obtain ⟨a, h1, h2⟩ := hall k hk
            dsimp only
            rw [m6 k hk, h1, nI_clamp (by omega)]
            exact ⟨rfl, by omega⟩
          · refine (endF_congr (fun k hk => ?_)).trans s2
            obtain ⟨a, h1, h2⟩ := hall k hk
            dsimp only
            rw [h1, nI_clamp (by omega)]
      · rw [if_neg q3] at hgo
        cases hgo
    · rw [if_neg q2] at m2
      obtain ⟨m3, m4, m5, m6⟩ := m2
      exact ⟨(len, 0, 0, 0, fun k => (c k).toNatClampNeg, fun _ => 0), p6, m3, m4, m5, ⟨p8, Nat.zero_le _, Nat.zero_le _, Nat.zero_le _⟩, hc1, fun h => absurd h (Nat.lt_irrefl 0), fun _ => rfl, fun h => absurd h (Nat.lt_irrefl 0), hn0⟩
  · rw [if_neg q1] at p9
    obtain ⟨m1, m3, m4, m5, m6⟩ := p9
    exact ⟨(len, 0, 0, 0, fun k => (c k).toNatClampNeg, fun _ => 0), p6, m3, m4, m5, ⟨p8, Nat.zero_le _, Nat.zero_le _, Nat.zero_le _⟩, hc1, fun h => absurd h (Nat.lt_irrefl 0), fun _ => rfl, fun h => absurd h (Nat.lt_irrefl 0), hn0⟩
/-- what a block takes, and until a trap -/
def coN (q : Pq) (tn : Nat) : Nat := if tn = 0 then 1 else if q.2.1 = 0 then tn * q.1 + 1 else max ((tn + q.2.2.1 - 1) * q.2.1) ((tn - 1) * q.2.1 + q.2.2.2.1) + 1
def cuN (q : Pq) (pa k : Nat) : Nat := pa * (if q.2.1 = 0 then q.1 else q.2.1) + (if q.2.1 = 0 then q.2.2.2.2.1 k else q.2.2.2.2.2 k) + 1
section PS
variable {e : Int32} {n p x : Nat} {L : Nat → Int32} {q : Pq}
theorem coN_rng (h : PN M e n L p q) {tn : Nat} (ht : tn ≤ 100) : 1 ≤ coN q tn ∧ coN q tn ≤ 20000 := by
  have hb := h.2.2.2.2.1
  have h1 : tn * q.1 ≤ 100 * 80 := Nat.mul_le_mul ht hb.1
  have h2 : (tn + q.2.2.1 - 1) * q.2.1 ≤ 120 * 80 := Nat.mul_le_mul (by omega) hb.2.1
  have h3 : (tn - 1) * q.2.1 ≤ 100 * 80 := Nat.mul_le_mul (by omega) hb.2.1
  unfold coN
  split
  · omega
  · split <;> omega
theorem cuN_rng (h : PN M e n L p q) {pa k : Nat} (ht : pa ≤ 100) (hk : k < n) : 1 ≤ cuN q pa k ∧ cuN q pa k ≤ 20000 := by
  have hb := h.2.2.2.2.1
  have h1 : pa * (if q.2.1 = 0 then q.1 else q.2.1) ≤ 100 * 80 := Nat.mul_le_mul ht (by split <;> omega)
  have h2 : (if q.2.1 = 0 then q.2.2.2.2.1 k else q.2.2.2.2.2 k) ≤ 6100 := by
    split
    · have := (h.2.2.2.2.2.1 k hk).2
      omega
    · exact (h.2.2.2.2.2.2.1 (by omega) k hk).2
  unfold cuN
  omega
theorem c59 (hκ : Rd κ) (hp : isPl p) (h : PN M e n L p q) {tn : Nat} (ht : tn ≤ 100) : Run 59 (0, entL 59 [.ref p, .int (nI tn)], [], M, κ) (.inl (some (.int (nI (coN q tn)))), M, κ) := by
  obtain ⟨h0, h2, h3, h4, hb, _⟩ := h
  have k1 : tn * q.1 ≤ 100 * 80 := Nat.mul_le_mul ht hb.1
  have k2 : (tn + q.2.2.1 - 1) * q.2.1 ≤ 120 * 80 := Nat.mul_le_mul (by omega) hb.2.1
  have k3 : (tn - 1) * q.2.1 ≤ 100 * 80 := Nat.mul_le_mul (by omega) hb.2.1
  have c1 : nI tn < 1 ↔ tn = 0 := by
    rw [ltI, nI_toInt (by omega), t1]
    omega
  have c2 : M p 2 < 1 ↔ q.2.1 = 0 := by
    rw [h2, ltI, nI_toInt (by omega), t1]
    omega
  refine RT_run (S59_0 hκ hp (fun a => ?_) (fun a b => ?_) (fun a b => ?_))
  · rw [coN, if_pos (c1.mp a)]
    rfl
  · rw [coN, if_neg (fun z => a (c1.mpr z)), if_pos (c2.mp b), h0, nI_mul, nI_succ]
  · have hn0 : ¬ tn = 0 := fun z => a (c1.mpr z)
    rw [coN, if_neg hn0, if_neg (fun z => b (c2.mpr z)), h2, h3, h4, nI_add, nI_sub1 (by omega), nI_sub1 (by omega), nI_mul, nI_mul, nI_add, mx_nI (by omega) (by omega), nI_succ]
theorem c60 (hκ : Rd κ) (hp : isPl p) (hn : n ≤ 10) (h : PN M e n L p q) {pa k : Nat} (ht : pa ≤ 100) (hk : k < n) : Run 60 (0, entL 60 [.ref p, .int (nI pa), .int (nI k)], [], M, κ) (.inl (some (.int (nI (cuN q pa k)))), M, κ) := by
  have hr := c58 (M := M) hκ hp
  obtain ⟨h0, h2, h3, h4, hb, h5, h6, _⟩ := h
  refine RT_run (S60_0 hκ hp (by omega) hr ?_)
  have c2 : 0 < M p 2 ↔ ¬ q.2.1 = 0 := by
    rw [h2, ltI, nI_toInt (by omega), c0]
    omega
  unfold cuN
  by_cases a : q.2.1 = 0
  · rw [if_neg (fun z => c2.mp z a), if_neg (fun z => c2.mp z a), if_pos a, if_pos a, h0, (h5 k hk).1, nI_mul, nI_add, nI_succ]
  · rw [if_pos (c2.mpr a), if_pos (c2.mpr a), if_neg a, if_neg a, h2, (h6 (by omega) k hk).1, nI_mul, nI_add, nI_succ]
/-- takes, the model -/
theorem c141 (hκ : Rd κ) {mp : Mp} {O : Op} {T : Int32} {tn : Nat} (hx : x < 6) (hn : n ≤ 10) (h : PN M e n (LtO mp O) (19 + 18 * x) q) (hP : PM M n x) (hC : MMp M mp) (hc : M 151 x = nI n) (he : M 147 x = e) (hO : ∀ f, f < 6 → ∀ j, j < n → M (152 + f) (10 * x + j) = O f j) (ht : tn ≤ 100) (hT : (T < 1 ∧ tn = 0 ∧ e = 3) ∨ (T = nI tn ∧ 1 ≤ tn)) (hT1 : ¬ e = 3 → tn = 1) : Run 141 (0, entL 141 [.ref 134, .int (nI x), .int T], [], M, κ) (.inl (some (.int (nI (coN q tn - 1)))), M, κ) := by
  obtain ⟨h0, h2, h3, h4, hb, h5, h6, h7, h8, h9⟩ := h
  obtain ⟨w1, w2, w3, w4, w5⟩ := hP
  have hlen : M 161 x = nI q.1 := w2.trans h0
  have hii : M 163 x = nI q.2.1 := w4.trans h2
  have hst : M 164 x = nI q.2.2.1 := w5.trans h3
  obtain ⟨m0, m1, m2, m3, m4, m5⟩ := hC
  refine RT_run (S141_0 hκ hx hb.1 hb.2.1 he hlen hii (fun a b => ?_) (fun a b c => ?_) (fun a b c => ?_) (fun a => ?_))
  · have : tn = 0 := by
      rcases hT with hT | hT
      · exact hT.2.1
      · rw [hT.1, ltI, nI_toInt (by omega), t1] at b
        omega
    rw [coN, if_pos this]
    rfl
  · rcases hT with hT | hT
    · exact absurd hT.1 b
    · rw [coN, if_neg (by omega), if_pos c, hT.1, nI_mul, Nat.add_sub_cancel]
  · rcases hT with hT | hT
    · exact absurd hT.1 b
    · have h8' := (h8 (by omega)).1
      refine loopI (n := n) (fun k la => RT 141 (50, [.ref 134, .int (nI x), .int T, .int la, .int (nI ((10 * x) + k))], [], M, κ) _) (fun k la => la = fo (fun k m => mx m (nI (q.2.2.2.2.2 k) + LtO mp O k)) 0 k) (fun k la hk hI ih => ?_) (fun la hI => ?_) 0 0 (Nat.zero_le _) rfl
      · refine S141_50 hκ hx hn (by omega) hb.2.1 hc hii hst m2 m3 m4 m5 hO (fun _ => ih _ ?_) (fun z => absurd (by omega) z)
        rw [hI, fo_suc, (w1 k hk).2.2, (h6 (by omega) k hk).1]
        rfl
      · refine S141_50 hκ hx hn (Nat.le_refl _) hb.2.1 hc hii hst m2 m3 m4 m5 hO (fun z => absurd z (Nat.lt_irrefl _)) (fun _ => ?_)
        have hla : la = nI q.2.2.2.1 := hI.trans h8'
        have k2 : (tn + q.2.2.1 - 1) * q.2.1 ≤ 120 * 80 := Nat.mul_le_mul (by omega) hb.2.1
        have k3 : (tn - 1) * q.2.1 ≤ 100 * 80 := Nat.mul_le_mul (by omega) hb.2.1
        rw [hla, hT.1, coN, if_neg (by omega), if_neg c, nI_add, nI_sub1 (by omega), nI_sub1 (by omega), nI_mul, nI_mul, nI_add, mx_nI (by omega) (by omega), Nat.add_sub_cancel]
  · rw [coN, hT1 a, if_neg (by decide), if_pos (h7 a), Nat.add_sub_cancel, Nat.one_mul]
end PS
/-- operations from k on; where it traps -/
def psS (O : Op) : Nat → Nat → Rs → Option Nat × Rs
  | 0, _, r => (none, r)
  | d + 1, k, r => match opS O k r with
    | none => (some k, r)
    | some r' => psS O d (k + 1) r'
def ptS (O : Op) (n : Nat) : Nat → Nat → Rs → Option (Nat × Nat) × Rs
  | 0, _, r => (none, r)
  | t + 1, pa, r => match psS O n 0 r with
    | (some k, r') => (some (pa, k), r')
    | (none, r') => ptS O n t (pa + 1) r'
theorem opS_oc {O : Op} {k : Nat} {r r' : Rs} (h : opS O k r = some r') : r'.2.2.1 ≤ r.2.2.1 + 1 := by
  unfold opS at h
  split at h
  · split at h
    · cases h
    · split at h
      · cases h; exact Nat.le_succ _
      · split at h
        · cases h; exact Nat.le_refl _
        · cases h; exact Nat.le_succ _
  · cases h; exact Nat.le_succ _
theorem psS_oc {O : Op} : ∀ d k r, (psS O d k r).2.2.2.1 ≤ r.2.2.1 + d ∧ ∀ j, (psS O d k r).1 = some j → k ≤ j ∧ j < k + d := fun d => by
  induction d with
  | zero => exact fun k r => ⟨Nat.le_refl _, fun j h => by cases h⟩
  | succ d ih =>
    intro k r
    rw [psS]
    cases q : opS O k r with
    | none =>
      refine ⟨Nat.le_add_right _ _, fun j h => ?_⟩
      cases h
      omega
    | some r' =>
      have h1 := opS_oc q
      have h2 := ih (k + 1) r'
      refine ⟨?_, fun j h => ?_⟩
      · show (psS O d (k + 1) r').2.2.2.1 ≤ _
        omega
      · have := h2.2 j h
        omega
end P_48_pass
