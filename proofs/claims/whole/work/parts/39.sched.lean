/-! MODULO: the class schedules a loop -/
section P_39_sched
theorem i_17_0 : ins 17 0 = some (.iconst 0, 1, 0, 0, 0, 0) := rfl
theorem i_17_1 : ins 17 1 = some (.istore_n 2, 2, 2, 0, 0, 0) := rfl
theorem i_17_2 : ins 17 2 = some (.iconst 0, 3, 0, 0, 0, 0) := rfl
theorem i_17_3 : ins 17 3 = some (.istore_n 3, 4, 3, 0, 0, 0) := rfl
theorem i_17_4 : ins 17 4 = some (.iload_n 3, 5, 3, 0, 0, 0) := rfl
theorem i_17_5 : ins 17 5 = some (.aload_n 0, 6, 0, 0, 0, 0) := rfl
theorem i_17_6 : ins 17 6 = some (.getfield 9, 9, 1, 0, 0, 0) := rfl
theorem i_17_9 : ins 17 9 = some (.if_icmp .ge 27, 12, 36, 0, 0, 0) := rfl
theorem i_17_12 : ins 17 12 = some (.iload_n 2, 13, 2, 0, 0, 0) := rfl
theorem i_17_13 : ins 17 13 = some (.aload_n 0, 14, 0, 0, 0, 0) := rfl
theorem i_17_14 : ins 17 14 = some (.getfield 25, 17, 1, 4, 0, 0) := rfl
theorem i_17_17 : ins 17 17 = some (.iload_n 3, 18, 3, 0, 0, 0) := rfl
theorem i_17_18 : ins 17 18 = some (.baload, 19, 0, 0, 0, 0) := rfl
theorem i_17_19 : ins 17 19 = some (.iload_n 1, 20, 1, 0, 0, 0) := rfl
theorem i_17_20 : ins 17 20 = some (.if_icmp .ne 7, 23, 27, 0, 0, 0) := rfl
theorem i_17_23 : ins 17 23 = some (.iconst 1, 24, 0, 0, 0, 1) := rfl
theorem i_17_24 : ins 17 24 = some (.goto 4, 27, 28, 0, 0, 0) := rfl
theorem i_17_27 : ins 17 27 = some (.iconst 0, 28, 0, 0, 0, 0) := rfl
theorem i_17_28 : ins 17 28 = some (.iadd, 29, 0, 0, 0, 0) := rfl
theorem i_17_29 : ins 17 29 = some (.istore_n 2, 30, 2, 0, 0, 0) := rfl
theorem i_17_30 : ins 17 30 = some (.iinc 3 1, 33, 3, 0, 0, 1) := rfl
theorem i_17_33 : ins 17 33 = some (.goto (-29), 36, 4, 0, 0, 0) := rfl
theorem i_17_36 : ins 17 36 = some (.iload_n 2, 37, 2, 0, 0, 0) := rfl
theorem i_17_37 : ins 17 37 = some (.ireturn, 38, 0, 0, 0, 0) := rfl
theorem S17_0 {Q : Ou → Prop} {M : Mem} {κ : Kp} (hκ : Rd κ) {n k : Nat} (hk : k ≤ n) (hn : n ≤ 10) (hc : M 113 0 = nI n) {Pt : Nat → Bool} (hPt : ∀ k, k < n → M 114 k = bI (Pt k)) {pt : Bool}
    (k1 : RT 17 (4, [.ref 113, .int (bI pt), .int (nI 0), .int (nI 0)], [], M, κ) Q)
    : RT 17 (0, [.ref 113, .int (bI pt), UU, UU], [], M, κ) Q := by
  refine w_push i_17_0 rfl ?_
  refine w_store (l1 := [.ref 113, .int (bI pt), .int 0, UU]) i_17_1 rfl (Nat.le_of_ble_eq_true rfl) rfl ?_
  refine w_push i_17_2 rfl ?_
  refine w_store (l1 := [.ref 113, .int (bI pt), .int 0, .int 0]) i_17_3 rfl (Nat.le_of_ble_eq_true rfl) rfl ?_
  exact (k1)
theorem S17_4 {Q : Ou → Prop} {M : Mem} {κ : Kp} (hκ : Rd κ) {n k : Nat} (hk : k ≤ n) (hn : n ≤ 10) (hc : M 113 0 = nI n) {Pt : Nat → Bool} (hPt : ∀ k, k < n → M 114 k = bI (Pt k)) {pt : Bool} {li : Nat} (b_li : li ≤ 100000)
    (k1 : k < n → RT 17 (4, [.ref 113, .int (bI pt), .int (nI (li + (if (bI (Pt k)) = (bI pt) then 1 else 0))), .int (nI (k + 1))], [], M, κ) Q)
    (k2 : ¬ (k < n) → Q (.inl (some (.int (nI li))), M, κ))
    : RT 17 (4, [.ref 113, .int (bI pt), .int (nI li), .int (nI k)], [], M, κ) Q := by
  refine w_load i_17_4 rfl rfl ?_
  refine w_load i_17_5 rfl rfl ?_
  refine w_getI (v := (nI n)) i_17_6 hκ (⟨rfl, by decide⟩ : isOb 113 1) rfl (hc) ?_
  refine w_if2n (k < n) i_17_9 (cN_ge (a := k) (b := n) (by omega) (by omega)) ?_ ?_
  · intro h1
    refine w_load i_17_12 rfl rfl ?_
    refine w_load i_17_13 rfl rfl ?_
    refine w_getR 114 i_17_14 hκ (⟨rfl, by decide⟩ : isOb 113 1) rfl rfl ?_
    refine w_load i_17_17 rfl rfl ?_
    refine w_zaldN (e := k) (v := (bI (Pt k))) i_17_18 hκ (⟨rfl, rfl, by decide⟩ : isZr 114 10) (by omega) (by decide) (hPt k (by omega)) ?_
    refine w_load i_17_19 rfl rfl ?_
    have K2 : RT 17 (28, [.ref 113, .int (bI pt), .int (nI li), .int (nI k)], [.int (nI (if (bI (Pt k)) = (bI pt) then 1 else 0)), .int (nI li)], M, κ) Q := by
      refine w_bin (w := (nI (li + (if (bI (Pt k)) = (bI pt) then 1 else 0)))) i_17_28 rfl (nI_add li (if (bI (Pt k)) = (bI pt) then 1 else 0)) ?_
      refine w_store (l1 := [.ref 113, .int (bI pt), .int (nI (li + (if (bI (Pt k)) = (bI pt) then 1 else 0))), .int (nI k)]) i_17_29 rfl (Nat.le_of_ble_eq_true rfl) rfl ?_
      refine w_iincN (n := k) (l1 := [.ref 113, .int (bI pt), .int (nI (li + (if (bI (Pt k)) = (bI pt) then 1 else 0))), .int (nI (k + 1))]) 1 i_17_30 rfl rfl ?_
      refine w_goto i_17_33 ?_
      exact (k1 h1)
    refine w_if2n ((bI (Pt k)) = (bI pt)) i_17_20 cI_ne ?_ ?_
    · intro h3
      refine w_push i_17_23 rfl ?_
      refine w_goto i_17_24 ?_
      exact (by first | exact (K2) | (have K9 := K2; simp only [↓if_pos h3] at K9 ⊢; exact (K9)))
    · intro h4
      refine w_push i_17_27 rfl ?_
      exact (by first | exact (K2) | (have K9 := K2; simp only [↓if_neg h4] at K9 ⊢; exact (K9)))
  · intro h5
    refine w_load i_17_36 rfl rfl ?_
    exact w_iret i_17_37 (.inl rfl) (k2 h5)
theorem i_38_0 : ins 38 0 = some (.aload_n 1, 1, 1, 0, 0, 0) := rfl
theorem i_38_1 : ins 38 1 = some (.iconst 0, 2, 0, 0, 0, 0) := rfl
theorem i_38_2 : ins 38 2 = some (.putfield 54, 5, 5, 2, 0, 0) := rfl
theorem i_38_5 : ins 38 5 = some (.aload_n 1, 6, 1, 0, 0, 0) := rfl
theorem i_38_6 : ins 38 6 = some (.iconst 0, 7, 0, 0, 0, 0) := rfl
theorem i_38_7 : ins 38 7 = some (.putfield 57, 10, 5, 3, 0, 0) := rfl
theorem i_38_10 : ins 38 10 = some (.aload_n 1, 11, 1, 0, 0, 0) := rfl
theorem i_38_11 : ins 38 11 = some (.iconst 0, 12, 0, 0, 0, 0) := rfl
theorem i_38_12 : ins 38 12 = some (.putfield 60, 15, 5, 4, 0, 0) := rfl
theorem i_38_15 : ins 38 15 = some (.iconst 0, 16, 0, 0, 0, 0) := rfl
theorem i_38_16 : ins 38 16 = some (.istore_n 2, 17, 2, 0, 0, 0) := rfl
theorem i_38_17 : ins 38 17 = some (.iload_n 2, 18, 2, 0, 0, 0) := rfl
theorem i_38_18 : ins 38 18 = some (.aload_n 0, 19, 0, 0, 0, 0) := rfl
theorem i_38_19 : ins 38 19 = some (.getfield 37, 22, 1, 0, 0, 0) := rfl
theorem i_38_22 : ins 38 22 = some (.if_icmp .ge 16, 25, 38, 0, 0, 0) := rfl
theorem i_38_25 : ins 38 25 = some (.aload_n 1, 26, 1, 0, 0, 0) := rfl
theorem i_38_26 : ins 38 26 = some (.getfield 63, 29, 5, 7, 0, 0) := rfl
theorem i_38_29 : ins 38 29 = some (.iload_n 2, 30, 2, 0, 0, 0) := rfl
theorem i_38_30 : ins 38 30 = some (.iconst (-1), 31, 0, 0, 0, (-1)) := rfl
theorem i_38_31 : ins 38 31 = some (.iastore, 32, 0, 0, 0, 0) := rfl
theorem i_38_32 : ins 38 32 = some (.iinc 2 1, 35, 2, 0, 0, 1) := rfl
theorem i_38_35 : ins 38 35 = some (.goto (-18), 38, 17, 0, 0, 0) := rfl
theorem i_38_38 : ins 38 38 = some (.return_, 39, 0, 0, 0, 0) := rfl
theorem S38_0 {Q : Ou → Prop} {M : Mem} {κ : Kp} (hκ : Rd κ) {p n k : Nat} (hp : isPl p) (hk : k ≤ n) (hn : n ≤ 10) (hc : M 113 0 = nI n) 
    (k1 : RT 38 (17, [.ref 113, .ref p, .int (nI 0)], [], (stM (stM (stM M p 2 0) p 3 0) p 4 0), κ) Q)
    : RT 38 (0, [.ref 113, .ref p, UU], [], M, κ) Q := by
  refine w_load i_38_0 rfl rfl ?_
  refine w_push i_38_1 rfl ?_
  refine w_putI i_38_2 hκ (pl_ob hp) rfl (fun c => absurd c (by decide)) ?_
  refine w_load i_38_5 rfl rfl ?_
  refine w_push i_38_6 rfl ?_
  refine w_putI i_38_7 hκ (pl_ob hp) rfl (fun c => absurd c (by decide)) ?_
  refine w_load i_38_10 rfl rfl ?_
  refine w_push i_38_11 rfl ?_
  refine w_putI i_38_12 hκ (pl_ob hp) rfl (fun c => absurd c (by decide)) ?_
  refine w_push i_38_15 rfl ?_
  refine w_store (l1 := [.ref 113, .ref p, .int 0]) i_38_16 rfl (Nat.le_of_ble_eq_true rfl) rfl ?_
  exact (k1)
theorem S38_17 {Q : Ou → Prop} {M : Mem} {κ : Kp} (hκ : Rd κ) {p n k : Nat} (hp : isPl p) (hk : k ≤ n) (hn : n ≤ 10) (hc : M 113 0 = nI n) 
    (k1 : k < n → RT 38 (17, [.ref 113, .ref p, .int (nI (k + 1))], [], (stM M (p + 3) k (-1)), κ) Q)
    (k2 : ¬ (k < n) → Q (.inl none, M, κ))
    : RT 38 (17, [.ref 113, .ref p, .int (nI k)], [], M, κ) Q := by
  refine w_load i_38_17 rfl rfl ?_
  refine w_load i_38_18 rfl rfl ?_
  refine w_getI (v := (nI n)) i_38_19 hκ (⟨rfl, by decide⟩ : isOb 113 1) rfl (hc) ?_
  refine w_if2n (k < n) i_38_22 (cN_ge (a := k) (b := n) (by omega) (by omega)) ?_ ?_
  · intro h1
    refine w_load i_38_25 rfl rfl ?_
    refine w_getR (p + 3) i_38_26 hκ (pl_ob hp) rfl rfl ?_
    refine w_load i_38_29 rfl rfl ?_
    refine w_push i_38_30 rfl ?_
    refine w_iastN (e := k) i_38_31 hκ (pl_ar hp 3 (by decide)) (by omega) (by decide) ?_
    refine w_iincN (n := k) (l1 := [.ref 113, .ref p, .int (nI (k + 1))]) 1 i_38_32 rfl rfl ?_
    refine w_goto i_38_35 ?_
    exact (k1 h1)
  · intro h2
    exact w_vret i_38_38 rfl (k2 h2)
theorem i_39_0 : ins 39 0 = some (.aload_n 1, 1, 1, 0, 0, 0) := rfl
theorem i_39_1 : ins 39 1 = some (.iload_n 2, 2, 2, 0, 0, 0) := rfl
theorem i_39_2 : ins 39 2 = some (.putfield 54, 5, 5, 2, 0, 0) := rfl
theorem i_39_5 : ins 39 5 = some (.aload_n 1, 6, 1, 0, 0, 0) := rfl
theorem i_39_6 : ins 39 6 = some (.iconst 1, 7, 0, 0, 0, 1) := rfl
theorem i_39_7 : ins 39 7 = some (.aload_n 0, 8, 0, 0, 0, 0) := rfl
theorem i_39_8 : ins 39 8 = some (.aload_n 1, 9, 1, 0, 0, 0) := rfl
theorem i_39_9 : ins 39 9 = some (.iload_n 2, 10, 2, 0, 0, 0) := rfl
theorem i_39_10 : ins 39 10 = some (.invokestatic 66, 13, 40, 1, 3, 0) := rfl
theorem i_39_13 : ins 39 13 = some (.iadd, 14, 0, 0, 0, 0) := rfl
theorem i_39_14 : ins 39 14 = some (.putfield 57, 17, 5, 3, 0, 0) := rfl
theorem i_39_17 : ins 39 17 = some (.aload_n 1, 18, 1, 0, 0, 0) := rfl
theorem i_39_18 : ins 39 18 = some (.aload_n 0, 19, 0, 0, 0, 0) := rfl
theorem i_39_19 : ins 39 19 = some (.aload_n 1, 20, 1, 0, 0, 0) := rfl
theorem i_39_20 : ins 39 20 = some (.getfield 63, 23, 5, 7, 0, 0) := rfl
theorem i_39_23 : ins 39 23 = some (.invokevirtual 70, 26, 29, 0, 2, 0) := rfl
theorem i_39_26 : ins 39 26 = some (.putfield 60, 29, 5, 4, 0, 0) := rfl
theorem i_39_29 : ins 39 29 = some (.return_, 30, 0, 0, 0, 0) := rfl
theorem S39_0 {Q : Ou → Prop} {M : Mem} {κ : Kp} (hκ : Rd κ) {p : Nat} (hp : isPl p) {ii : Nat} (b_ii : ii ≤ 100000) {r_10 : Int32} {r_23 : Int32}
    (o1 : Run 40 (0, entL 40 [.ref 113, .ref p, .int (nI ii)], [], (stM M p 2 (nI ii)), κ) (.inl (some (.int r_10)), (stM M p 2 (nI ii)), κ))
    (o2 : Run 29 (0, entL 29 [.ref 113, .ref (p + 3)], [], (stM (stM M p 2 (nI ii)) p 3 (1 + r_10)), κ) (.inl (some (.int r_23)), (stM (stM M p 2 (nI ii)) p 3 (1 + r_10)), κ))
    (k1 : Q (.inl none, (stM (stM (stM M p 2 (nI ii)) p 3 (1 + r_10)) p 4 r_23), κ))
    : RT 39 (0, [.ref 113, .ref p, .int (nI ii)], [], M, κ) Q := by
  refine w_load i_39_0 rfl rfl ?_
  refine w_load i_39_1 rfl rfl ?_
  refine w_putI i_39_2 hκ (pl_ob hp) rfl (fun c => absurd c (by decide)) ?_
  refine w_load i_39_5 rfl rfl ?_
  refine w_push i_39_6 rfl ?_
  refine w_load i_39_7 rfl rfl ?_
  refine w_load i_39_8 rfl rfl ?_
  refine w_load i_39_9 rfl rfl ?_
  refine w_callS i_39_10 ⟨by decide, by decide, by decide, rfl, rfl⟩ (av := [.ref 113, .ref p, .int (nI ii)]) (rest := [.int 1, .ref p]) rfl rfl (Nat.le_of_ble_eq_true rfl) (v := some (.int r_10)) (o1) ?_
  refine w_bin (w := (1 + r_10)) i_39_13 rfl rfl ?_
  refine w_putI i_39_14 hκ (pl_ob hp) rfl (fun c => absurd c (by decide)) ?_
  refine w_load i_39_17 rfl rfl ?_
  refine w_load i_39_18 rfl rfl ?_
  refine w_load i_39_19 rfl rfl ?_
  refine w_getR (p + 3) i_39_20 hκ (pl_ob hp) rfl rfl ?_
  refine w_callV (i := _) i_39_23 ⟨by decide, by decide, by decide, rfl⟩ hκ (⟨rfl, by decide⟩ : isOb 113 1) (av := [.ref (p + 3)]) (rest := [.ref p]) rfl rfl (Nat.le_of_ble_eq_true rfl) (v := some (.int r_23)) (o2) ?_
  refine w_putI i_39_26 hκ (pl_ob hp) rfl (fun c => absurd c (by decide)) ?_
  exact w_vret i_39_29 rfl (k1)
theorem i_41_0 : ins 41 0 = some (.aload_n 1, 1, 1, 0, 0, 0) := rfl
theorem i_41_1 : ins 41 1 = some (.iconst 0, 2, 0, 0, 0, 0) := rfl
theorem i_41_2 : ins 41 2 = some (.invokevirtual 83, 5, 17, 0, 2, 0) := rfl
theorem i_41_5 : ins 41 5 = some (.istore_n 2, 6, 2, 0, 0, 0) := rfl
theorem i_41_6 : ins 41 6 = some (.aload_n 1, 7, 1, 0, 0, 0) := rfl
theorem i_41_7 : ins 41 7 = some (.iconst 1, 8, 0, 0, 0, 1) := rfl
theorem i_41_8 : ins 41 8 = some (.invokevirtual 83, 11, 17, 0, 2, 0) := rfl
theorem i_41_11 : ins 41 11 = some (.istore_n 3, 12, 3, 0, 0, 0) := rfl
theorem i_41_12 : ins 41 12 = some (.iconst 1, 13, 0, 0, 0, 1) := rfl
theorem i_41_13 : ins 41 13 = some (.istore 4, 15, 4, 0, 0, 0) := rfl
theorem S41_0 {Q : Ou → Prop} {M : Mem} {κ : Kp} (hκ : Rd κ)   {r_2 : Nat} {r_8 : Nat}
    (o1 : Run 17 (0, entL 17 [.ref 113, .int 0], [], M, κ) (.inl (some (.int (nI r_2))), M, κ))
    (o2 : Run 17 (0, entL 17 [.ref 113, .int 1], [], M, κ) (.inl (some (.int (nI r_8))), M, κ))
    (k1 : RT 41 (15, [.ref 122, .ref 113, .int (nI r_2), .int (nI r_8), .int (nI 1)], [], M, κ) Q)
    : RT 41 (0, [.ref 122, .ref 113, UU, UU, UU], [], M, κ) Q := by
  refine w_load i_41_0 rfl rfl ?_
  refine w_push i_41_1 rfl ?_
  refine w_callV (i := _) i_41_2 ⟨by decide, by decide, by decide, rfl⟩ hκ (⟨rfl, by decide⟩ : isOb 113 1) (av := [.int 0]) (rest := []) rfl rfl (Nat.le_of_ble_eq_true rfl) (v := some (.int (nI r_2))) (o1) ?_
  refine w_store (l1 := [.ref 122, .ref 113, .int (nI r_2), UU, UU]) i_41_5 rfl (Nat.le_of_ble_eq_true rfl) rfl ?_
  refine w_load i_41_6 rfl rfl ?_
  refine w_push i_41_7 rfl ?_
  refine w_callV (i := _) i_41_8 ⟨by decide, by decide, by decide, rfl⟩ hκ (⟨rfl, by decide⟩ : isOb 113 1) (av := [.int 1]) (rest := []) rfl rfl (Nat.le_of_ble_eq_true rfl) (v := some (.int (nI r_8))) (o2) ?_
  refine w_store (l1 := [.ref 122, .ref 113, .int (nI r_2), .int (nI r_8), UU]) i_41_11 rfl (Nat.le_of_ble_eq_true rfl) rfl ?_
  refine w_push i_41_12 rfl ?_
  refine w_store (l1 := [.ref 122, .ref 113, .int (nI r_2), .int (nI r_8), .int 1]) i_41_13 rfl (Nat.le_of_ble_eq_true rfl) rfl ?_
  exact (k1)
theorem i_41_15 : ins 41 15 = some (.iload 4, 17, 4, 0, 0, 0) := rfl
theorem i_41_17 : ins 41 17 = some (.sipush 1000, 20, 0, 0, 0, 1000) := rfl
theorem i_41_20 : ins 41 20 = some (.if_icmp .ge 44, 23, 64, 0, 0, 0) := rfl
theorem i_41_23 : ins 41 23 = some (.iload_n 2, 24, 2, 0, 0, 0) := rfl
theorem i_41_24 : ins 41 24 = some (.iload 4, 26, 4, 0, 0, 0) := rfl
theorem i_41_26 : ins 41 26 = some (.aload_n 1, 27, 1, 0, 0, 0) := rfl
theorem i_41_27 : ins 41 27 = some (.getfield 87, 30, 1, 2, 0, 0) := rfl
theorem i_41_30 : ins 41 30 = some (.imul, 31, 0, 0, 0, 0) := rfl
theorem i_41_31 : ins 41 31 = some (.if_icmp .gt 27, 34, 58, 0, 0, 0) := rfl
theorem i_41_34 : ins 41 34 = some (.iload_n 3, 35, 3, 0, 0, 0) := rfl
theorem i_41_35 : ins 41 35 = some (.iload 4, 37, 4, 0, 0, 0) := rfl
theorem i_41_37 : ins 41 37 = some (.aload_n 1, 38, 1, 0, 0, 0) := rfl
theorem i_41_38 : ins 41 38 = some (.getfield 90, 41, 1, 3, 0, 0) := rfl
theorem i_41_41 : ins 41 41 = some (.imul, 42, 0, 0, 0, 0) := rfl
theorem i_41_42 : ins 41 42 = some (.if_icmp .gt 16, 45, 58, 0, 0, 0) := rfl
theorem i_41_45 : ins 41 45 = some (.aload_n 0, 46, 0, 0, 0, 0) := rfl
theorem i_41_46 : ins 41 46 = some (.aload_n 1, 47, 1, 0, 0, 0) := rfl
theorem i_41_47 : ins 41 47 = some (.iload 4, 49, 4, 0, 0, 0) := rfl
theorem i_41_49 : ins 41 49 = some (.invokevirtual 93, 52, 42, 0, 3, 0) := rfl
theorem i_41_58 : ins 41 58 = some (.iinc 4 1, 61, 4, 0, 0, 1) := rfl
theorem i_41_61 : ins 41 61 = some (.goto (-46), 64, 15, 0, 0, 0) := rfl
theorem i_41_64 : ins 41 64 = some (.sipush 1000, 67, 0, 0, 0, 1000) := rfl
theorem i_41_67 : ins 41 67 = some (.ireturn, 68, 0, 0, 0, 0) := rfl
theorem S41_15 {Q : Ou → Prop} {M : Mem} {κ : Kp} (hκ : Rd κ) {al po ac pc ii : Nat} (hal : M 113 2 = nI al) (hpo : M 113 3 = nI po) (hac : ac ≤ 10) (hpc : pc ≤ 10) (hii : ii ≤ 1000) (hm1 : ii * al ≤ 100000) (hm2 : ii * po ≤ 100000) 
    (k1 : ii < 1000 → (((ii * al) < ac) ∨ ((¬ ((ii * al) < ac)) ∧ ((ii * po) < pc))) → RT 41 (15, [.ref 122, .ref 113, .int (nI ac), .int (nI pc), .int (nI (ii + 1))], [], M, κ) Q)
    (k2 : ii < 1000 → ¬ ((ii * al) < ac) → ¬ ((ii * po) < pc) → RT 42 (0, entL 42 [.ref 122, .ref 113, .int (nI ii)], [], M, κ) (fun o => ∃ v M1 κ1, o = (.inl v, M1, κ1) ∧ RT 41 (52, [.ref 122, .ref 113, .int (nI ac), .int (nI pc), .int (nI ii)], v.toList ++ [], M1, κ1) Q))
    (k3 : ¬ (ii < 1000) → Q (.inl (some (.int 1000)), M, κ))
    : RT 41 (15, [.ref 122, .ref 113, .int (nI ac), .int (nI pc), .int (nI ii)], [], M, κ) Q := by
  refine w_load i_41_15 rfl rfl ?_
  refine w_push i_41_17 rfl ?_
  refine w_if2n (ii < 1000) i_41_20 (cN_ge (a := ii) (b := 1000) (by omega) (by omega)) ?_ ?_
  · intro h1
    refine w_load i_41_23 rfl rfl ?_
    refine w_load i_41_24 rfl rfl ?_
    refine w_load i_41_26 rfl rfl ?_
    refine w_getI (v := (nI al)) i_41_27 hκ (⟨rfl, by decide⟩ : isOb 113 1) rfl (hal) ?_
    refine w_bin (w := (nI (ii * al))) i_41_30 rfl (nI_mul ii al) ?_
    have K2 : (((ii * al) < ac) ∨ ((¬ ((ii * al) < ac)) ∧ ((ii * po) < pc))) → RT 41 (58, [.ref 122, .ref 113, .int (nI ac), .int (nI pc), .int (nI ii)], [], M, κ) Q := by
      intro h3
      refine w_iincN (n := ii) (l1 := [.ref 122, .ref 113, .int (nI ac), .int (nI pc), .int (nI (ii + 1))]) 1 i_41_58 rfl rfl ?_
      refine w_goto i_41_61 ?_
      exact (k1 h1 h3)
    refine w_if2 ((ii * al) < ac) i_41_31 (cN_gt (a := ac) (b := (ii * al)) (by omega) (by omega)) ?_ ?_
    · intro h4
      exact (by first | exact (K2 (.inl h4)) | (have K9 := K2 (.inl h4); simp only [↓if_pos h4] at K9 ⊢; exact (K9)))
    · intro h5
      refine w_load i_41_34 rfl rfl ?_
      refine w_load i_41_35 rfl rfl ?_
      refine w_load i_41_37 rfl rfl ?_
      refine w_getI (v := (nI po)) i_41_38 hκ (⟨rfl, by decide⟩ : isOb 113 1) rfl (hpo) ?_
      refine w_bin (w := (nI (ii * po))) i_41_41 rfl (nI_mul ii po) ?_
      refine w_if2 ((ii * po) < pc) i_41_42 (cN_gt (a := pc) (b := (ii * po)) (by omega) (by omega)) ?_ ?_
      · intro h6
        exact (by first | exact (K2 (.inr ⟨h5, h6⟩)) | (have K9 := K2 (.inr ⟨h5, h6⟩); simp only [↓if_neg h5, ↓if_pos h6] at K9 ⊢; exact (K9)))
      · intro h7
        refine w_load i_41_45 rfl rfl ?_
        refine w_load i_41_46 rfl rfl ?_
        refine w_load i_41_47 rfl rfl ?_
        exact w_callVI (i := _) i_41_49 ⟨by decide, by decide, by decide, rfl⟩ hκ (⟨rfl, by decide⟩ : isOb 122 3) (av := [.ref 113, .int (nI ii)]) (rest := []) rfl rfl (Nat.le_of_ble_eq_true rfl) (k2 h1 h5 h7)
  · intro h8
    refine w_push i_41_64 rfl ?_
    exact w_iret i_41_67 (.inl rfl) (k3 h8)
theorem i_41_52 : ins 41 52 = some (.ifCond .eq 6, 55, 58, 0, 0, 0) := rfl
theorem i_41_55 : ins 41 55 = some (.iload 4, 57, 4, 0, 0, 0) := rfl
theorem i_41_57 : ins 41 57 = some (.ireturn, 58, 0, 0, 0, 0) := rfl
theorem S41_52 {Q : Ou → Prop} {M : Mem} {κ : Kp} (hκ : Rd κ)  {ac : Nat} {pc : Nat} {ii : Nat} {b : Bool} (b_ac : ac ≤ 100000) (b_pc : pc ≤ 100000) (b_ii : ii ≤ 100000)
    (k1 : b = true → Q (.inl (some (.int (nI ii))), M, κ))
    (k2 : ¬ (b = true) → RT 41 (15, [.ref 122, .ref 113, .int (nI ac), .int (nI pc), .int (nI (ii + 1))], [], M, κ) Q)
    : RT 41 (52, [.ref 122, .ref 113, .int (nI ac), .int (nI pc), .int (nI ii)], [.int (bI b)], M, κ) Q := by
  refine w_if0n (b = true) i_41_52 cB_eq ?_ ?_
  · intro h1
    refine w_load i_41_55 rfl rfl ?_
    exact w_iret i_41_57 (.inl rfl) (k1 h1)
  · intro h2
    refine w_iincN (n := ii) (l1 := [.ref 122, .ref 113, .int (nI ac), .int (nI pc), .int (nI (ii + 1))]) 1 i_41_58 rfl rfl ?_
    refine w_goto i_41_61 ?_
    exact (k2 h2)
theorem i_37_0 : ins 37 0 = some (.aload_n 2, 1, 2, 0, 0, 0) := rfl
theorem i_37_1 : ins 37 1 = some (.iconst 0, 2, 0, 0, 0, 0) := rfl
theorem i_37_2 : ins 37 2 = some (.putfield 21, 5, 5, 1, 0, 0) := rfl
theorem i_37_5 : ins 37 5 = some (.aload_n 1, 6, 1, 0, 0, 0) := rfl
theorem i_37_6 : ins 37 6 = some (.aload_n 2, 7, 2, 0, 0, 0) := rfl
theorem i_37_7 : ins 37 7 = some (.invokestatic 27, 10, 38, 1, 2, 0) := rfl
theorem S37_0 {Q : Ou → Prop} {M : Mem} {κ : Kp} (hκ : Rd κ) {p : Nat} (hp : isPl p) 
    (k1 : RT 38 (0, entL 38 [.ref 113, .ref p], [], (stM M p 1 0), κ) (fun o => ∃ v M1 κ1, o = (.inl v, M1, κ1) ∧ RT 37 (10, [.ref 122, .ref 113, .ref p, UU], v.toList ++ [], M1, κ1) Q))
    : RT 37 (0, [.ref 122, .ref 113, .ref p, UU], [], M, κ) Q := by
  refine w_load i_37_0 rfl rfl ?_
  refine w_push i_37_1 rfl ?_
  refine w_putI i_37_2 hκ (pl_ob hp) rfl (fun c => absurd c (by decide)) ?_
  refine w_load i_37_5 rfl rfl ?_
  refine w_load i_37_6 rfl rfl ?_
  exact w_callSI i_37_7 ⟨by decide, by decide, by decide, rfl, rfl⟩ (av := [.ref 113, .ref p]) (rest := []) rfl rfl (Nat.le_of_ble_eq_true rfl) (k1)
theorem i_37_10 : ins 37 10 = some (.aload_n 1, 11, 1, 0, 0, 0) := rfl
theorem i_37_11 : ins 37 11 = some (.getfield 31, 14, 1, 1, 0, 0) := rfl
theorem i_37_14 : ins 37 14 = some (.ifCond .eq 10, 17, 24, 0, 0, 0) := rfl
theorem i_37_17 : ins 37 17 = some (.aload_n 1, 18, 1, 0, 0, 0) := rfl
theorem i_37_18 : ins 37 18 = some (.getfield 37, 21, 1, 0, 0, 0) := rfl
theorem i_37_21 : ins 37 21 = some (.ifCond .ne 4, 24, 25, 0, 0, 0) := rfl
theorem i_37_24 : ins 37 24 = some (.return_, 25, 0, 0, 0, 0) := rfl
theorem i_37_25 : ins 37 25 = some (.aload_n 2, 26, 2, 0, 0, 0) := rfl
theorem i_37_26 : ins 37 26 = some (.aload_n 0, 27, 0, 0, 0, 0) := rfl
theorem i_37_27 : ins 37 27 = some (.aload_n 1, 28, 1, 0, 0, 0) := rfl
theorem i_37_28 : ins 37 28 = some (.invokevirtual 40, 31, 41, 0, 2, 0) := rfl
theorem S37_10 {Q : Ou → Prop} {M : Mem} {κ : Kp} (hκ : Rd κ) {p n : Nat} {lp : Bool} (hp : isPl p) (hn : n ≤ 10) (hc : M 113 0 = nI n) (hlp : M 113 1 = bI lp) 
    (k1 : (((lp = true) ∧ (n = 0)) ∨ (¬ (lp = true))) → Q (.inl none, M, κ))
    (k2 : lp = true → ¬ (n = 0) → RT 41 (0, entL 41 [.ref 122, .ref 113], [], M, κ) (fun o => ∃ v M1 κ1, o = (.inl v, M1, κ1) ∧ RT 37 (31, [.ref 122, .ref 113, .ref p, UU], v.toList ++ [.ref p], M1, κ1) Q))
    : RT 37 (10, [.ref 122, .ref 113, .ref p, UU], [], M, κ) Q := by
  refine w_load i_37_10 rfl rfl ?_
  refine w_getI (v := (bI lp)) i_37_11 hκ (⟨rfl, by decide⟩ : isOb 113 1) rfl (hlp) ?_
  have K1 : (((lp = true) ∧ (n = 0)) ∨ (¬ (lp = true))) → RT 37 (24, [.ref 122, .ref 113, .ref p, UU], [], M, κ) Q := by
    intro h2
    exact w_vret i_37_24 rfl (k1 h2)
  refine w_if0n (lp = true) i_37_14 cB_eq ?_ ?_
  · intro h3
    refine w_load i_37_17 rfl rfl ?_
    refine w_getI (v := (nI n)) i_37_18 hκ (⟨rfl, by decide⟩ : isOb 113 1) rfl (hc) ?_
    refine w_if0n (n = 0) i_37_21 (cZ_ne (a := n) (by omega) (by decide)) ?_ ?_
    · intro h4
      exact (by first | exact (K1 (.inl ⟨h3, h4⟩)) | (have K9 := K1 (.inl ⟨h3, h4⟩); simp only [↓if_pos h3, ↓if_pos h4] at K9 ⊢; exact (K9)))
    · intro h5
      refine w_load i_37_25 rfl rfl ?_
      refine w_load i_37_26 rfl rfl ?_
      refine w_load i_37_27 rfl rfl ?_
      exact w_callVI (i := _) i_37_28 ⟨by decide, by decide, by decide, rfl⟩ hκ (⟨rfl, by decide⟩ : isOb 122 3) (av := [.ref 113]) (rest := [.ref p]) rfl rfl (Nat.le_of_ble_eq_true rfl) (k2 h3 h5)
  · intro h6
    exact (by first | exact (K1 (.inr h6)) | (have K9 := K1 (.inr h6); simp only [↓if_neg h6] at K9 ⊢; exact (K9)))
theorem i_37_31 : ins 37 31 = some (.putfield 21, 34, 5, 1, 0, 0) := rfl
theorem i_37_34 : ins 37 34 = some (.aload_n 2, 35, 2, 0, 0, 0) := rfl
theorem i_37_35 : ins 37 35 = some (.getfield 21, 38, 5, 1, 0, 0) := rfl
theorem i_37_38 : ins 37 38 = some (.istore_n 3, 39, 3, 0, 0, 0) := rfl
theorem S37_31 {Q : Ou → Prop} {M : Mem} {κ : Kp} (hκ : Rd κ) {p : Nat} (hp : isPl p) {ii : Nat} (b_ii : ii ≤ 100000)
    (k1 : RT 37 (39, [.ref 122, .ref 113, .ref p, .int (nI ii)], [], (stM M p 1 (nI ii)), κ) Q)
    : RT 37 (31, [.ref 122, .ref 113, .ref p, UU], [.int (nI ii), .ref p], M, κ) Q := by
  refine w_putI i_37_31 hκ (pl_ob hp) rfl (fun c => absurd c (by decide)) ?_
  refine w_load i_37_34 rfl rfl ?_
  refine w_getI (v := (nI ii)) i_37_35 hκ (pl_ob hp) rfl (stM_s) ?_
  refine w_store (l1 := [.ref 122, .ref 113, .ref p, .int (nI ii)]) i_37_38 rfl (Nat.le_of_ble_eq_true rfl) rfl ?_
  exact (k1)
theorem i_37_39 : ins 37 39 = some (.iload_n 3, 40, 3, 0, 0, 0) := rfl
theorem i_37_40 : ins 37 40 = some (.aload_n 2, 41, 2, 0, 0, 0) := rfl
theorem i_37_41 : ins 37 41 = some (.getfield 43, 44, 5, 0, 0, 0) := rfl
theorem i_37_44 : ins 37 44 = some (.if_icmp .gt 26, 47, 70, 0, 0, 0) := rfl
theorem i_37_47 : ins 37 47 = some (.aload_n 0, 48, 0, 0, 0, 0) := rfl
theorem i_37_48 : ins 37 48 = some (.aload_n 1, 49, 1, 0, 0, 0) := rfl
theorem i_37_49 : ins 37 49 = some (.aload_n 2, 50, 2, 0, 0, 0) := rfl
theorem i_37_50 : ins 37 50 = some (.iload_n 3, 51, 3, 0, 0, 0) := rfl
theorem i_37_51 : ins 37 51 = some (.invokevirtual 46, 54, 43, 0, 4, 0) := rfl
theorem i_37_70 : ins 37 70 = some (.aload_n 1, 71, 1, 0, 0, 0) := rfl
theorem i_37_71 : ins 37 71 = some (.aload_n 2, 72, 2, 0, 0, 0) := rfl
theorem i_37_72 : ins 37 72 = some (.invokestatic 27, 75, 38, 1, 2, 0) := rfl
theorem S37_39 {Q : Ou → Prop} {M : Mem} {κ : Kp} (hκ : Rd κ) {p len : Nat} (hp : isPl p) (hlen : M p 0 = nI len) (hl80 : len ≤ 1000) {ii : Nat} (b_ii : ii ≤ 100000)
    (k1 : len < ii → RT 38 (0, entL 38 [.ref 113, .ref p], [], M, κ) (fun o => ∃ v M1 κ1, o = (.inl v, M1, κ1) ∧ RT 37 (75, [.ref 122, .ref 113, .ref p, .int (nI ii)], v.toList ++ [], M1, κ1) Q))
    (k2 : ¬ (len < ii) → RT 43 (0, entL 43 [.ref 122, .ref 113, .ref p, .int (nI ii)], [], M, κ) (fun o => ∃ v M1 κ1, o = (.inl v, M1, κ1) ∧ RT 37 (54, [.ref 122, .ref 113, .ref p, .int (nI ii)], v.toList ++ [], M1, κ1) Q))
    : RT 37 (39, [.ref 122, .ref 113, .ref p, .int (nI ii)], [], M, κ) Q := by
  refine w_load i_37_39 rfl rfl ?_
  refine w_load i_37_40 rfl rfl ?_
  refine w_getI (v := (nI len)) i_37_41 hκ (pl_ob hp) rfl (hlen) ?_
  refine w_if2 (len < ii) i_37_44 (cN_gt (a := ii) (b := len) (by omega) (by omega)) ?_ ?_
  · intro h1
    refine w_load i_37_70 rfl rfl ?_
    refine w_load i_37_71 rfl rfl ?_
    exact w_callSI i_37_72 ⟨by decide, by decide, by decide, rfl, rfl⟩ (av := [.ref 113, .ref p]) (rest := []) rfl rfl (Nat.le_of_ble_eq_true rfl) (k1 h1)
  · intro h2
    refine w_load i_37_47 rfl rfl ?_
    refine w_load i_37_48 rfl rfl ?_
    refine w_load i_37_49 rfl rfl ?_
    refine w_load i_37_50 rfl rfl ?_
    exact w_callVI (i := _) i_37_51 ⟨by decide, by decide, by decide, rfl⟩ hκ (⟨rfl, by decide⟩ : isOb 122 3) (av := [.ref 113, .ref p, .int (nI ii)]) (rest := []) rfl rfl (Nat.le_of_ble_eq_true rfl) (k2 h2)
theorem i_37_54 : ins 37 54 = some (.ifCond .eq 10, 57, 64, 0, 0, 0) := rfl
theorem i_37_57 : ins 37 57 = some (.aload_n 1, 58, 1, 0, 0, 0) := rfl
theorem i_37_58 : ins 37 58 = some (.aload_n 2, 59, 2, 0, 0, 0) := rfl
theorem i_37_59 : ins 37 59 = some (.iload_n 3, 60, 3, 0, 0, 0) := rfl
theorem i_37_60 : ins 37 60 = some (.invokestatic 50, 63, 39, 1, 3, 0) := rfl
theorem i_37_63 : ins 37 63 = some (.return_, 64, 0, 0, 0, 0) := rfl
theorem i_37_64 : ins 37 64 = some (.iinc 3 1, 67, 3, 0, 0, 1) := rfl
theorem i_37_67 : ins 37 67 = some (.goto (-28), 70, 39, 0, 0, 0) := rfl
theorem i_37_75 : ins 37 75 = some (.return_, 76, 0, 0, 0, 0) := rfl
theorem S37_54 {Q : Ou → Prop} {M : Mem} {κ : Kp} (hκ : Rd κ) {p : Nat} (hp : isPl p) {ii : Nat} {b : Bool} (b_ii : ii ≤ 100000)
    (k1 : b = true → RT 39 (0, entL 39 [.ref 113, .ref p, .int (nI ii)], [], M, κ) (fun o => ∃ v M1 κ1, o = (.inl v, M1, κ1) ∧ RT 37 (63, [.ref 122, .ref 113, .ref p, .int (nI ii)], v.toList ++ [], M1, κ1) Q))
    (k2 : ¬ (b = true) → RT 37 (39, [.ref 122, .ref 113, .ref p, .int (nI (ii + 1))], [], M, κ) Q)
    : RT 37 (54, [.ref 122, .ref 113, .ref p, .int (nI ii)], [.int (bI b)], M, κ) Q := by
  refine w_if0n (b = true) i_37_54 cB_eq ?_ ?_
  · intro h1
    refine w_load i_37_57 rfl rfl ?_
    refine w_load i_37_58 rfl rfl ?_
    refine w_load i_37_59 rfl rfl ?_
    exact w_callSI i_37_60 ⟨by decide, by decide, by decide, rfl, rfl⟩ (av := [.ref 113, .ref p, .int (nI ii)]) (rest := []) rfl rfl (Nat.le_of_ble_eq_true rfl) (k1 h1)
  · intro h2
    refine w_iincN (n := ii) (l1 := [.ref 122, .ref 113, .ref p, .int (nI (ii + 1))]) 1 i_37_64 rfl rfl ?_
    refine w_goto i_37_67 ?_
    exact (k2 h2)
theorem S37_63 {Q : Ou → Prop} {M : Mem} {κ : Kp} (hκ : Rd κ) {p : Nat} (hp : isPl p) 
    (k1 : Q (.inl none, M, κ))
    : RT 37 (63, [UU, UU, UU, UU], [], M, κ) Q := by
  exact w_vret i_37_63 rfl (k1)
theorem S37_75 {Q : Ou → Prop} {M : Mem} {κ : Kp} (hκ : Rd κ) {p : Nat} (hp : isPl p) 
    (k1 : Q (.inl none, M, κ))
    : RT 37 (75, [UU, UU, UU, UU], [], M, κ) Q := by
  exact w_vret i_37_75 rfl (k1)
variable {Q : Ou → Prop} {M M0 : Mem} {κ : Kp}
section SC
variable {n p : Nat} {Wf : Nat → Nat → Nat → Option Int32} {Pt : Nat → Bool} {U : Bool → Nat} {L : Nat → Int32} {lp : Bool} {len : Nat}
def cPt (Pt : Nat → Bool) (b : Bool) : Nat → Nat
  | 0 => 0
  | k + 1 => cPt Pt b k + (if Pt k = b then 1 else 0)
theorem cPt_le {b : Bool} : ∀ m, cPt Pt b m ≤ m := fun m => by
  induction m with
  | zero => exact Nat.le_refl 0
  | succ m ih =>
    rw [cPt]
    split <;> omega
theorem cPt_sum : ∀ m, cPt Pt false m + cPt Pt true m = m := fun m => by
  induction m with
  | zero => rfl
  | succ m ih =>
    rw [cPt, cPt]
    cases Pt m with
    | true => rw [if_neg (show ¬ true = false by decide), if_pos rfl]; omega
    | false => rw [if_pos rfl, if_neg (show ¬ false = true by decide)]; omega
theorem c17 (hκ : Rd κ) {b : Bool} (hn : n ≤ 10) (hc : M 113 0 = nI n) (hPt : ∀ k, k < n → M 114 k = bI (Pt k)) : Run 17 (0, entL 17 [.ref 113, .int (bI b)], [], M, κ) (.inl (some (.int (nI (cPt Pt b n)))), M, κ) := by
  refine RT_run (S17_0 (k := 0) hκ (by omega) hn hc hPt ?_)
  refine loopI (n := n) (fun k li => RT 17 (4, [.ref 113, .int (bI b), .int (nI li), .int (nI k)], [], M, κ) _) (fun k li => li = cPt Pt b k) (fun k li hk hI ih => ?_) (fun li hI => ?_) 0 0 (Nat.zero_le _) rfl
  · have := cPt_le (Pt := Pt) (b := b) k
    refine S17_4 hκ (by omega) hn hc hPt (by omega) (fun _ => ih _ ?_) (fun z => absurd hk z)
    rw [hI, cPt]
    congr 1
    by_cases q : Pt k = b
    · rw [if_pos q, if_pos (by rw [q])]
    · rw [if_neg q, if_neg (fun z => q (bI_inj z))]
  · have := cPt_le (Pt := Pt) (b := b) n
    refine S17_4 hκ (Nat.le_refl _) hn hc hPt (by omega) (fun z => absurd z (Nat.lt_irrefl _)) (fun _ => ?_)
    rw [hI]
/-- there is a closed way that asks for too much -/
def posF (n : Nat) (Wf : Nat → Nat → Nat → Option Int32) (ii : Nat) : Bool := psd (fwZ n (eW (Wf ii)) n) n
def prI (n : Nat) (Wf : Nat → Nat → Nat → Option Int32) (ii : Nat) : Nat → Int32 := prF (fwZ n (eW (Wf ii)) n) n
def cIF (n : Nat) (Wf : Nat → Nat → Nat → Option Int32) (Pt : Nat → Bool) (U : Bool → Nat) (ii : Nat) : Nat → Int32 := (mits n (Wf ii) (prI n Wf ii) Pt U ii (6 * n)).1
def gdI (n : Nat) (Wf : Nat → Nat → Nat → Option Int32) (Pt : Nat → Bool) (U : Bool → Nat) (ii : Nat) : Bool := !posF n Wf ii && goF n (prI n Wf ii) (cIF n Wf Pt U ii) (nI ii)
def clI (n : Nat) (Wf : Nat → Nat → Nat → Option Int32) (Pt : Nat → Bool) (U : Bool → Nat) (ii : Nat) : Bool := decide (cPt Pt false n ≤ ii * U false) && decide (cPt Pt true n ≤ ii * U true) && !posF n Wf ii
def miN (n : Nat) (Wf : Nat → Nat → Nat → Option Int32) (Pt : Nat → Bool) (U : Bool → Nat) : Nat := srN (clI n Wf Pt U) 80 1
def iiN (n : Nat) (Wf : Nat → Nat → Nat → Option Int32) (Pt : Nat → Bool) (U : Bool → Nat) (len : Nat) : Nat := srN (gdI n Wf Pt U) (len + 1 - miN n Wf Pt U) (miN n Wf Pt U)
/-- what is known of the weights at each interval -/
def Wfam (n : Nat) (Wf : Nat → Nat → Nat → Option Int32) : Prop := (∀ ii, ii ≤ 100 → Wrg n (Wf ii)) ∧ (∀ ii, ii ≤ 80 → Ws n (Wf ii)) ∧ posF n Wf 80 = false
theorem srN_stop {f : Nat → Bool} : ∀ d k, (∃ c, k ≤ c ∧ c < k + d ∧ f c = true) → srN f d k < k + d ∧ f (srN f d k) = true := fun d => by
  induction d with
  | zero => intro k ⟨c, h1, h2, _⟩; omega
  | succ d ih =>
    intro k ⟨c, h1, h2, h3⟩
    rw [srN]
    by_cases q : f k = true
    · rw [if_pos q]
      exact ⟨by omega, q⟩
    · rw [if_neg q]
      have hck : ¬ c = k := fun e => q (e ▸ h3)
      have := ih (k + 1) ⟨c, by omega, by omega, h3⟩
      exact ⟨by omega, this.2⟩
theorem miN_le (hw : Wfam n Wf) (hn : n ≤ 10) (hU : ∀ b, 1 ≤ U b) : 1 ≤ miN n Wf Pt U ∧ miN n Wf Pt U ≤ 80 := by
  have h1 := srN_ge (clI n Wf Pt U) 80 1
  have h2 := srN_stop (f := clI n Wf Pt U) 80 1 ⟨80, by omega, by omega, by
    have a1 := cPt_le (Pt := Pt) (b := false) n
    have a2 := cPt_le (Pt := Pt) (b := true) n
    have u1 := hU false
    have u2 := hU true
    unfold clI
    rw [hw.2.2, decide_eq_true (by omega), decide_eq_true (by omega)]
    rfl⟩
  exact ⟨h1.1, by have := h2.1; unfold miN; omega⟩
/-- what weighing gives -/
def H25 (κ : Kp) (n : Nat) (Wf : Nat → Nat → Nat → Option Int32) (M0 : Mem) : Prop := ∀ M, (∀ o x, 113 ≤ o ∧ o ≤ 117 → M o x = M0 o x) → ∀ ii, ii ≤ 80 → ∀ Q' : Ou → Prop, (∀ M', (∀ o x, ¬ o = 118 → M' o x = M o x) → CW M' n (Wf ii) → Q' (.inl none, M', κ)) → RT 25 (0, entL 25 [.ref 113, .int (nI ii), .int 64], [], M, κ) Q'
theorem H25_eq (h : H25 κ n Wf M0) (he : ∀ o x, 113 ≤ o ∧ o ≤ 117 → M o x = M0 o x) : H25 κ n Wf M := fun M' h' => h M' (fun o x ho => (h' o x ho).trans (he o x ho))
theorem f42' (hκ : Rd κ) (hn : n ≤ 10) {ii : Nat} (hii : ii ≤ 80) (hc : M0 113 0 = nI n) (hw : Wfam n Wf) (h25 : H25 κ n Wf M0)
    (K : ∀ M1, (∀ o x, ¬ (o = 118 ∨ o = 123) → M1 o x = M0 o x) → CW M1 n (Wf ii) → ((!posF n Wf ii) = true → ∀ i, i < n → M1 123 i = prI n Wf ii i) → Q (.inl (some (.int (bI (!posF n Wf ii)))), M1, κ)) :
    RT 42 (0, entL 42 [.ref 122, .ref 113, .int (nI ii)], [], M0, κ) Q :=
  f42 (W := Wf ii) hκ hn (by omega) hc (hw.1 ii (by omega)) (hw.2.1 ii hii) (h25 M0 (fun _ _ _ => rfl) ii hii) K
theorem f41 (hκ : Rd κ) (hn : n ≤ 10) (hc : M0 113 0 = nI n) (hal : M0 113 2 = nI (U false)) (hpo : M0 113 3 = nI (U true)) (hU : ∀ b, 1 ≤ U b ∧ U b ≤ 4) (hPt : ∀ k, k < n → M0 114 k = bI (Pt k)) (hw : Wfam n Wf) (h25 : H25 κ n Wf M0)
    (K : ∀ M1, (∀ o x, ¬ (o = 118 ∨ o = 123) → M1 o x = M0 o x) → Q (.inl (some (.int (nI (miN n Wf Pt U)))), M1, κ)) :
    RT 41 (0, entL 41 [.ref 122, .ref 113], [], M0, κ) Q := by
  have a1 := cPt_le (Pt := Pt) (b := false) n
  have a2 := cPt_le (Pt := Pt) (b := true) n
  have hmi := miN_le (Pt := Pt) (U := U) hw hn (fun b => (hU b).1)
  refine S41_0 (r_2 := cPt Pt false n) (r_8 := cPt Pt true n) hκ (c17 (b := false) hκ hn hc hPt) (c17 (b := true) hκ hn hc hPt) ?_
  have main : ∀ d ii M, ii + d = 81 → 1 ≤ ii → miN n Wf Pt U = srN (clI n Wf Pt U) d ii → (∀ o x, ¬ (o = 118 ∨ o = 123) → M o x = M0 o x) → RT 41 (15, [.ref 122, .ref 113, .int (nI (cPt Pt false n)), .int (nI (cPt Pt true n)), .int (nI ii)], [], M, κ) Q := by
    intro d
    induction d with
    | zero =>
      intro ii M hd hi hm hf
      rw [srN] at hm
      omega
    | succ d ih =>
      intro ii M hd hi hm hf
      have u1 := hU false
      have u2 := hU true
      have v1 : ii * U false ≤ 100 * 4 := Nat.mul_le_mul (by omega) u1.2
      have v2 : ii * U true ≤ 100 * 4 := Nat.mul_le_mul (by omega) u2.2
      refine S41_15 hκ ((hf _ _ (by omega)).trans hal) ((hf _ _ (by omega)).trans hpo) (by omega) (by omega) (by omega) (by omega) (by omega) (fun _ h => ih (ii + 1) M (by omega) (by omega) ?_ hf) (fun _ h1 h2 => ?_) (fun z => absurd (by omega) z)
      · rw [srN, if_neg] at hm
        · exact hm
        · unfold clI
          rcases h with h | h
          · rw [decide_eq_false (Nat.not_le.mpr h)]
            exact Bool.false_ne_true
          · rw [decide_eq_false (Nat.not_le.mpr h.2), Bool.and_false]
            exact Bool.false_ne_true
      · refine f42' (ii := ii) hκ hn (by omega) ((hf _ _ (by omega)).trans hc) hw (H25_eq h25 (fun o x h => hf o x (by omega))) (fun M1 g1 _ _ => ⟨_, M1, κ, rfl, ?_⟩)
        have hf1 : ∀ o x, ¬ (o = 118 ∨ o = 123) → M1 o x = M0 o x := fun o x h => (g1 o x h).trans (hf o x h)
        rw [srN] at hm
        have ec : clI n Wf Pt U ii = !posF n Wf ii := by
          unfold clI
          rw [decide_eq_true (Nat.not_lt.mp h1), decide_eq_true (Nat.not_lt.mp h2)]
          rfl
        rw [ec] at hm
        refine S41_52 hκ (by omega) (by omega) (by omega) (fun h => ?_) (fun h => ?_)
        · rw [if_pos h] at hm
          have := K M1 hf1
          rw [hm] at this
          exact this
        · rw [if_neg h] at hm
          exact ih (ii + 1) M1 (by omega) (by omega) hm hf1
  exact main 80 1 M0 rfl (Nat.le_refl 1) rfl (fun _ _ _ => rfl)
theorem f38 (hκ : Rd κ) (hp : isPl p) (hn : n ≤ 10) (hc : M0 113 0 = nI n)
    (K : ∀ M, (∀ o x, ¬ ((o = p ∧ 2 ≤ x ∧ x ≤ 4) ∨ o = p + 3) → M o x = M0 o x) → M p 2 = 0 → M p 3 = 0 → M p 4 = 0 → (∀ k, k < n → M (p + 3) k = -1) → Q (.inl none, M, κ)) : RT 38 (0, entL 38 [.ref 113, .ref p], [], M0, κ) Q := by
  have hr2 := pl_rng hp
  refine S38_0 (k := 0) hκ hp (by omega) hn hc ?_
  refine loopI (n := n) (fun k M => RT 38 (17, [.ref 113, .ref p, .int (nI k)], [], M, κ) Q) (fun k M => (∀ o x, ¬ ((o = p ∧ 2 ≤ x ∧ x ≤ 4) ∨ o = p + 3) → M o x = M0 o x) ∧ M p 2 = 0 ∧ M p 3 = 0 ∧ M p 4 = 0 ∧ ∀ i, i < k → M (p + 3) i = -1) (fun k M hk hI ih => ?_) (fun M hI => ?_) 0 _ (Nat.zero_le _) ⟨fun o x h => ?_, ?_, ?_, ?_, fun i hi => absurd hi (Nat.not_lt_zero i)⟩
  · obtain ⟨h1, h2, h3, h4, h5⟩ := hI
    refine S38_17 hκ hp (by omega) hn ((h1 _ _ (by omega)).trans hc) (fun _ => ih _ ⟨fun o x h => (stM_o (by omega)).trans (h1 o x h), (stM_o (by omega)).trans h2, (stM_o (by omega)).trans h3, (stM_o (by omega)).trans h4, fun i hi => ?_⟩) (fun z => absurd hk z)
    by_cases e : i = k
    · rw [e, stM_s]
    · rw [stM_j e]
      exact h5 i (by omega)
  · obtain ⟨h1, h2, h3, h4, h5⟩ := hI
    exact S38_17 hκ hp (Nat.le_refl _) hn ((h1 _ _ (by omega)).trans hc) (fun z => absurd z (Nat.lt_irrefl _)) (fun _ => K M h1 h2 h3 h4 h5)
  · rw [stM_n (by omega), stM_n (by omega), stM_n (by omega)]
  · rw [stM_j (by decide), stM_j (by decide), stM_s]
  · rw [stM_j (by decide), stM_s]
  · rw [stM_s]
/-- what a modulo schedule is -/
def MR (n : Nat) (Wf : Nat → Nat → Nat → Option Int32) (Pt : Nat → Bool) (U : Bool → Nat) (L : Nat → Int32) (lp : Bool) (len : Nat) (mi ii st sp : Int32) (c : Nat → Int32) : Prop :=
  if lp = true ∧ 0 < n then mi = nI (miN n Wf Pt U) ∧ (if iiN n Wf Pt U len ≤ len then ii = nI (iiN n Wf Pt U len) ∧ st = 1 + gst (cIF n Wf Pt U (iiN n Wf Pt U len)) ii n ∧ sp = endF (cIF n Wf Pt U (iiN n Wf Pt U len)) L n ∧ ∀ k, k < n → c k = cIF n Wf Pt U (iiN n Wf Pt U len) k else ii = 0 ∧ st = 0 ∧ sp = 0 ∧ ∀ k, k < n → c k = -1)
  else mi = 0 ∧ ii = 0 ∧ st = 0 ∧ sp = 0 ∧ ∀ k, k < n → c k = -1
theorem endF_congr {c c' : Nat → Int32} (h : ∀ k, k < n → c k = c' k) : endF c L n = endF c' L n := fo_congr (fun k m hk => by rw [h k hk])
theorem gst_congr {c c' : Nat → Int32} {i2 : Int32} (h : ∀ k, k < n → c k = c' k) : gst c i2 n = gst c' i2 n := fo_congr (fun k m hk => by rw [h k hk])
theorem nx_congr {P P' c : Nat → Int32} : ∀ m, (∀ k, k < m → P k = P' k) → nx P c m = nx P' c m := fun m => by
  induction m with
  | zero => exact fun _ => rfl
  | succ m ih =>
    intro h
    rw [nx, nx, ih (fun k hk => h k (by omega))]
    by_cases q : c m = -1
    · rw [if_pos q, if_pos q]
      cases q2 : nx P' c m with
      | none => rfl
      | some b =>
        have := (nx_lt m b q2).1
        dsimp only
        rw [h b (by omega), h m (Nat.lt_succ_self m)]
    · rw [if_neg q, if_neg q]
theorem wst_congr {P P' c : Nat → Int32} {i2 row : Int32} {k : Nat} : ∀ m, (∀ k, k < m → P k = P' k) → wst P Pt c i2 k row m = wst P' Pt c i2 k row m := fun m => by
  induction m with
  | zero => exact fun _ => rfl
  | succ m ih =>
    intro h
    rw [wst, wst, ih (fun k hk => h k (by omega))]
    by_cases q : tkn Pt c i2 k row m = true
    · rw [if_pos q, if_pos q]
      cases q2 : wst P' Pt c i2 k row m with
      | none => rfl
      | some b =>
        have := wst_lt m b q2
        dsimp only
        rw [h b (by omega), h m (Nat.lt_succ_self m)]
    · rw [if_neg q, if_neg q]
theorem mits_congr {P P' : Nat → Int32} {W : Nat → Nat → Option Int32} {ii : Nat} (h : ∀ k, k < n → P k = P' k) : ∀ s, mits n W P Pt U ii s = mits n W P' Pt U ii s := fun s => by
  induction s with
  | zero => rfl
  | succ s ih =>
    rw [mits, mits, ih]
    generalize mits n W P' Pt U ii s = z
    rw [mst, mst, nx_congr n h]
    cases nx P' z.1 n with
    | none => rfl
    | some k =>
      have e : msC n W P Pt U ii z.1 z.2 k = msC n W P' Pt U ii z.1 z.2 k := by
        unfold msC drF
        rw [wst_congr n h]
      dsimp only
      rw [e]
theorem goF_congr {P P' c : Nat → Int32} {i2 : Int32} (h : ∀ k, k < n → P k = P' k) : goF n P c i2 = goF n P' c i2 := by
  unfold goF
  rw [nx_congr n h]
end SC
end P_39_sched
