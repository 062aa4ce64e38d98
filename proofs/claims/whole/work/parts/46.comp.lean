/-! COMPILE: the class and the model -/
section P_46_comp
theorem i_85_0 : ins 85 0 = some (.iconst 0, 1, 0, 0, 0, 0) := rfl
theorem i_85_1 : ins 85 1 = some (.istore_n 1, 2, 1, 0, 0, 0) := rfl
theorem S85_0 {Q : Ou → Prop} {M : Mem} {κ : Kp} (hκ : Rd κ)  
    (k1 : RT 85 (2, [.ref 0, .int (nI 0), UU], [], M, κ) Q)
    : RT 85 (0, [.ref 0, UU, UU], [], M, κ) Q := by
  refine w_push i_85_0 rfl ?_
  refine w_store (l1 := [.ref 0, .int 0, UU]) i_85_1 rfl (Nat.le_of_ble_eq_true rfl) rfl ?_
  exact (k1)
theorem i_85_2 : ins 85 2 = some (.iload_n 1, 3, 1, 0, 0, 0) := rfl
theorem i_85_3 : ins 85 3 = some (.aload_n 0, 4, 0, 0, 0, 0) := rfl
theorem i_85_4 : ins 85 4 = some (.getfield 47, 7, 6, 6, 0, 0) := rfl
theorem i_85_7 : ins 85 7 = some (.if_icmp .ge 41, 10, 48, 0, 0, 0) := rfl
theorem i_85_10 : ins 85 10 = some (.aload_n 0, 11, 0, 0, 0, 0) := rfl
theorem i_85_11 : ins 85 11 = some (.getfield 47, 14, 6, 6, 0, 0) := rfl
theorem i_85_14 : ins 85 14 = some (.istore_n 2, 15, 2, 0, 0, 0) := rfl
theorem i_85_48 : ins 85 48 = some (.iconst 0, 49, 0, 0, 0, 0) := rfl
theorem i_85_49 : ins 85 49 = some (.ireturn, 50, 0, 0, 0, 0) := rfl
theorem S85_2 {Q : Ou → Prop} {M : Mem} {κ : Kp} (hκ : Rd κ) {nb x : Nat} (hx : x ≤ nb) (hnb6 : nb ≤ 6) (hnb : M 0 6 = nI nb) 
    (k1 : x < nb → RT 85 (15, [.ref 0, .int (nI x), .int (nI nb)], [], M, κ) Q)
    (k2 : ¬ (x < nb) → Q (.inl (some (.int 0)), M, κ))
    : RT 85 (2, [.ref 0, .int (nI x), UU], [], M, κ) Q := by
  refine w_load i_85_2 rfl rfl ?_
  refine w_load i_85_3 rfl rfl ?_
  refine w_getI (v := (nI nb)) i_85_4 hκ (⟨rfl, by decide⟩ : isOb 0 6) rfl (hnb) ?_
  refine w_if2n (x < nb) i_85_7 (cN_ge (a := x) (b := nb) (by omega) (by omega)) ?_ ?_
  · intro h1
    refine w_load i_85_10 rfl rfl ?_
    refine w_getI (v := (nI nb)) i_85_11 hκ (⟨rfl, by decide⟩ : isOb 0 6) rfl (hnb) ?_
    refine w_store (l1 := [.ref 0, .int (nI x), .int (nI nb)]) i_85_14 rfl (Nat.le_of_ble_eq_true rfl) rfl ?_
    exact (k1 h1)
  · intro h2
    refine w_push i_85_48 rfl ?_
    exact w_iret i_85_49 (.inr ⟨rfl, rfl⟩) (k2 h2)
theorem i_85_15 : ins 85 15 = some (.iload_n 2, 16, 2, 0, 0, 0) := rfl
theorem i_85_16 : ins 85 16 = some (.bipush 6, 18, 0, 0, 0, 6) := rfl
theorem i_85_18 : ins 85 18 = some (.if_icmp .ge 24, 21, 42, 0, 0, 0) := rfl
theorem i_85_21 : ins 85 21 = some (.aload_n 0, 22, 0, 0, 0, 0) := rfl
theorem i_85_22 : ins 85 22 = some (.getfield 18, 25, 6, 1, 0, 0) := rfl
theorem i_85_25 : ins 85 25 = some (.iload_n 1, 26, 1, 0, 0, 0) := rfl
theorem i_85_26 : ins 85 26 = some (.aaload, 27, 0, 0, 0, 0) := rfl
theorem i_85_27 : ins 85 27 = some (.iload_n 2, 28, 2, 0, 0, 0) := rfl
theorem i_85_28 : ins 85 28 = some (.invokevirtual 209, 31, 6, 0, 2, 0) := rfl
theorem i_85_31 : ins 85 31 = some (.ifCond .eq 5, 34, 36, 0, 0, 0) := rfl
theorem i_85_34 : ins 85 34 = some (.iconst 1, 35, 0, 0, 0, 1) := rfl
theorem i_85_35 : ins 85 35 = some (.ireturn, 36, 0, 0, 0, 0) := rfl
theorem i_85_36 : ins 85 36 = some (.iinc 2 1, 39, 2, 0, 0, 1) := rfl
theorem i_85_39 : ins 85 39 = some (.goto (-24), 42, 15, 0, 0, 0) := rfl
theorem i_85_42 : ins 85 42 = some (.iinc 1 1, 45, 1, 0, 0, 1) := rfl
theorem i_85_45 : ins 85 45 = some (.goto (-43), 48, 2, 0, 0, 0) := rfl
theorem S85_15 {Q : Ou → Prop} {M : Mem} {κ : Kp} (hκ : Rd κ) {x y : Nat} (hx : x < 6) (hy : y ≤ 6) 
    (k1 : y < 6 → (comF (M (5 + 18 * x) 0) (M (5 + 18 * x) 2) (M (5 + 18 * x) 3) (nI y)) = true → Q (.inl (some (.int 1)), M, κ))
    (k2 : y < 6 → ¬ ((comF (M (5 + 18 * x) 0) (M (5 + 18 * x) 2) (M (5 + 18 * x) 3) (nI y)) = true) → RT 85 (15, [.ref 0, .int (nI x), .int (nI (y + 1))], [], M, κ) Q)
    (k3 : ¬ (y < 6) → RT 85 (2, [.ref 0, .int (nI (x + 1)), UU], [], M, κ) Q)
    : RT 85 (15, [.ref 0, .int (nI x), .int (nI y)], [], M, κ) Q := by
  refine w_load i_85_15 rfl rfl ?_
  refine w_push i_85_16 rfl ?_
  refine w_if2n (y < 6) i_85_18 (cN_ge (a := y) (b := 6) (by omega) (by omega)) ?_ ?_
  · intro h1
    refine w_load i_85_21 rfl rfl ?_
    refine w_getR 2 i_85_22 hκ (⟨rfl, by decide⟩ : isOb 0 6) rfl rfl ?_
    refine w_load i_85_25 rfl rfl ?_
    refine w_aaldN (e := x) (5 + 18 * x) i_85_26 hκ (⟨by decide, by decide⟩ : (kd 2 = 22 ∨ kd 2 = 23) ∧ 2 < 180) (by omega) rfl ?_
    refine w_load i_85_27 rfl rfl ?_
    refine w_callV (i := _) i_85_28 ⟨by decide, by decide, by decide, rfl⟩ hκ (bl_ob (bl_g (by omega : x < 6))) (av := [.int (nI y)]) (rest := []) rfl rfl (Nat.le_of_ble_eq_true rfl) (v := some (.int (bI (comF (M (5 + 18 * x) 0) (M (5 + 18 * x) 2) (M (5 + 18 * x) 3) (nI y))))) (c6 hκ (bl_g (by omega : x < 6)) (rfl) (rfl) (rfl)) ?_
    refine w_if0n ((comF (M (5 + 18 * x) 0) (M (5 + 18 * x) 2) (M (5 + 18 * x) 3) (nI y)) = true) i_85_31 cB_eq ?_ ?_
    · intro h2
      refine w_push i_85_34 rfl ?_
      exact w_iret i_85_35 (.inr ⟨rfl, rfl⟩) (k1 h1 h2)
    · intro h3
      refine w_iincN (n := y) (l1 := [.ref 0, .int (nI x), .int (nI (y + 1))]) 1 i_85_36 rfl rfl ?_
      refine w_goto i_85_39 ?_
      exact (k2 h1 h3)
  · intro h4
    refine w_iincN (n := x) (l1 := [.ref 0, .int (nI (x + 1)), .int (nI y)]) 1 i_85_42 rfl rfl ?_
    refine w_goto i_85_45 ?_
    exact w_weak (lle_s (lle_s (lle_u lle_n))) (k3 h4)
theorem i_86_0 : ins 86 0 = some (.iconst 0, 1, 0, 0, 0, 0) := rfl
theorem i_86_1 : ins 86 1 = some (.istore_n 1, 2, 1, 0, 0, 0) := rfl
theorem S86_0 {Q : Ou → Prop} {M : Mem} {κ : Kp} (hκ : Rd κ)  
    (k1 : RT 86 (2, [.ref 0, .int (nI 0)], [], M, κ) Q)
    : RT 86 (0, [.ref 0, UU], [], M, κ) Q := by
  refine w_push i_86_0 rfl ?_
  refine w_store (l1 := [.ref 0, .int 0]) i_86_1 rfl (Nat.le_of_ble_eq_true rfl) rfl ?_
  exact (k1)
theorem i_86_2 : ins 86 2 = some (.iload_n 1, 3, 1, 0, 0, 0) := rfl
theorem i_86_3 : ins 86 3 = some (.aload_n 0, 4, 0, 0, 0, 0) := rfl
theorem i_86_4 : ins 86 4 = some (.getfield 47, 7, 6, 6, 0, 0) := rfl
theorem i_86_7 : ins 86 7 = some (.if_icmp .ge 45, 10, 52, 0, 0, 0) := rfl
theorem i_86_10 : ins 86 10 = some (.aload_n 0, 11, 0, 0, 0, 0) := rfl
theorem i_86_11 : ins 86 11 = some (.getfield 18, 14, 6, 1, 0, 0) := rfl
theorem i_86_14 : ins 86 14 = some (.iload_n 1, 15, 1, 0, 0, 0) := rfl
theorem i_86_15 : ins 86 15 = some (.aaload, 16, 0, 0, 0, 0) := rfl
theorem i_86_16 : ins 86 16 = some (.getfield 175, 19, 0, 0, 0, 0) := rfl
theorem i_86_19 : ins 86 19 = some (.iconst 3, 20, 0, 0, 0, 3) := rfl
theorem i_86_20 : ins 86 20 = some (.if_icmp .ne 26, 23, 46, 0, 0, 0) := rfl
theorem i_86_23 : ins 86 23 = some (.aload_n 0, 24, 0, 0, 0, 0) := rfl
theorem i_86_24 : ins 86 24 = some (.getfield 18, 27, 6, 1, 0, 0) := rfl
theorem i_86_27 : ins 86 27 = some (.iload_n 1, 28, 1, 0, 0, 0) := rfl
theorem i_86_28 : ins 86 28 = some (.aaload, 29, 0, 0, 0, 0) := rfl
theorem i_86_29 : ins 86 29 = some (.aload_n 0, 30, 0, 0, 0, 0) := rfl
theorem i_86_30 : ins 86 30 = some (.getfield 18, 33, 6, 1, 0, 0) := rfl
theorem i_86_33 : ins 86 33 = some (.iload_n 1, 34, 1, 0, 0, 0) := rfl
theorem i_86_34 : ins 86 34 = some (.aaload, 35, 0, 0, 0, 0) := rfl
theorem i_86_35 : ins 86 35 = some (.getfield 212, 38, 0, 1, 0, 0) := rfl
theorem i_86_38 : ins 86 38 = some (.invokevirtual 215, 41, 8, 0, 2, 0) := rfl
theorem i_86_41 : ins 86 41 = some (.ifCond .eq 5, 44, 46, 0, 0, 0) := rfl
theorem i_86_44 : ins 86 44 = some (.iconst 1, 45, 0, 0, 0, 1) := rfl
theorem i_86_45 : ins 86 45 = some (.ireturn, 46, 0, 0, 0, 0) := rfl
theorem i_86_46 : ins 86 46 = some (.iinc 1 1, 49, 1, 0, 0, 1) := rfl
theorem i_86_49 : ins 86 49 = some (.goto (-47), 52, 2, 0, 0, 0) := rfl
theorem i_86_52 : ins 86 52 = some (.iconst 0, 53, 0, 0, 0, 0) := rfl
theorem i_86_53 : ins 86 53 = some (.ireturn, 54, 0, 0, 0, 0) := rfl
theorem S86_2 {Q : Ou → Prop} {M : Mem} {κ : Kp} (hκ : Rd κ) {nb x : Nat} (hx : x ≤ nb) (hnb6 : nb ≤ 6) (hnb : M 0 6 = nI nb)  {r_38 : Bool}
    (o1 : x < nb → (M (5 + 18 * x) 0) = 3 → Run 8 (0, entL 8 [.ref (5 + 18 * x), .int (M (5 + 18 * x) 1)], [], M, κ) (.inl (some (.int (bI r_38))), M, κ))
    (k1 : x < nb → ((((M (5 + 18 * x) 0) = 3) ∧ (¬ (r_38 = true))) ∨ (¬ ((M (5 + 18 * x) 0) = 3))) → RT 86 (2, [.ref 0, .int (nI (x + 1))], [], M, κ) Q)
    (k2 : x < nb → (M (5 + 18 * x) 0) = 3 → r_38 = true → Q (.inl (some (.int 1)), M, κ))
    (k3 : ¬ (x < nb) → Q (.inl (some (.int 0)), M, κ))
    : RT 86 (2, [.ref 0, .int (nI x)], [], M, κ) Q := by
  refine w_load i_86_2 rfl rfl ?_
  refine w_load i_86_3 rfl rfl ?_
  refine w_getI (v := (nI nb)) i_86_4 hκ (⟨rfl, by decide⟩ : isOb 0 6) rfl (hnb) ?_
  refine w_if2n (x < nb) i_86_7 (cN_ge (a := x) (b := nb) (by omega) (by omega)) ?_ ?_
  · intro h1
    refine w_load i_86_10 rfl rfl ?_
    refine w_getR 2 i_86_11 hκ (⟨rfl, by decide⟩ : isOb 0 6) rfl rfl ?_
    refine w_load i_86_14 rfl rfl ?_
    refine w_aaldN (e := x) (5 + 18 * x) i_86_15 hκ (⟨by decide, by decide⟩ : (kd 2 = 22 ∨ kd 2 = 23) ∧ 2 < 180) (by omega) rfl ?_
    refine w_getI (v := (M (5 + 18 * x) 0)) i_86_16 hκ (bl_ob (bl_g (by omega : x < 6))) rfl (rfl) ?_
    refine w_push i_86_19 rfl ?_
    have K2 : ((((M (5 + 18 * x) 0) = 3) ∧ (¬ (r_38 = true))) ∨ (¬ ((M (5 + 18 * x) 0) = 3))) → RT 86 (46, [.ref 0, .int (nI x)], [], M, κ) Q := by
      intro h3
      refine w_iincN (n := x) (l1 := [.ref 0, .int (nI (x + 1))]) 1 i_86_46 rfl rfl ?_
      refine w_goto i_86_49 ?_
      exact (k1 h1 h3)
    refine w_if2n ((M (5 + 18 * x) 0) = 3) i_86_20 cI_ne ?_ ?_
    · intro h4
      refine w_load i_86_23 rfl rfl ?_
      refine w_getR 2 i_86_24 hκ (⟨rfl, by decide⟩ : isOb 0 6) rfl rfl ?_
      refine w_load i_86_27 rfl rfl ?_
      refine w_aaldN (e := x) (5 + 18 * x) i_86_28 hκ (⟨by decide, by decide⟩ : (kd 2 = 22 ∨ kd 2 = 23) ∧ 2 < 180) (by omega) rfl ?_
      refine w_load i_86_29 rfl rfl ?_
      refine w_getR 2 i_86_30 hκ (⟨rfl, by decide⟩ : isOb 0 6) rfl rfl ?_
      refine w_load i_86_33 rfl rfl ?_
      refine w_aaldN (e := x) (5 + 18 * x) i_86_34 hκ (⟨by decide, by decide⟩ : (kd 2 = 22 ∨ kd 2 = 23) ∧ 2 < 180) (by omega) rfl ?_
      refine w_getI (v := (M (5 + 18 * x) 1)) i_86_35 hκ (bl_ob (bl_g (by omega : x < 6))) rfl (rfl) ?_
      refine w_callV (i := _) i_86_38 ⟨by decide, by decide, by decide, rfl⟩ hκ (bl_ob (bl_g (by omega : x < 6))) (av := [.int (M (5 + 18 * x) 1)]) (rest := []) rfl rfl (Nat.le_of_ble_eq_true rfl) (v := some (.int (bI r_38))) (o1 h1 h4) ?_
      refine w_if0n (r_38 = true) i_86_41 cB_eq ?_ ?_
      · intro h5
        refine w_push i_86_44 rfl ?_
        exact w_iret i_86_45 (.inr ⟨rfl, rfl⟩) (k2 h1 h4 h5)
      · intro h6
        exact (by first | exact (K2 (.inl ⟨h4, h6⟩)) | (have K9 := K2 (.inl ⟨h4, h6⟩); simp only [↓if_pos h4, ↓if_neg h6] at K9 ⊢; exact (K9)))
    · intro h7
      exact (by first | exact (K2 (.inr h7)) | (have K9 := K2 (.inr h7); simp only [↓if_neg h7] at K9 ⊢; exact (K9)))
  · intro h8
    refine w_push i_86_52 rfl ?_
    exact w_iret i_86_53 (.inr ⟨rfl, rfl⟩) (k3 h8)
theorem i_71_0 : ins 71 0 = some (.aload_n 0, 1, 0, 0, 0, 0) := rfl
theorem i_71_1 : ins 71 1 = some (.getfield 47, 4, 6, 6, 0, 0) := rfl
theorem i_71_4 : ins 71 4 = some (.iconst 1, 5, 0, 0, 0, 1) := rfl
theorem i_71_5 : ins 71 5 = some (.if_icmp .ge 11, 8, 16, 0, 0, 0) := rfl
theorem i_71_8 : ins 71 8 = some (.new 94, 11, 1, 1, 0, 0) := rfl
theorem i_71_16 : ins 71 16 = some (.aload_n 0, 17, 0, 0, 0, 0) := rfl
theorem i_71_17 : ins 71 17 = some (.invokevirtual 116, 20, 85, 0, 1, 0) := rfl
theorem i_71_20 : ins 71 20 = some (.ifCond .eq 11, 23, 31, 0, 0, 0) := rfl
theorem i_71_23 : ins 71 23 = some (.new 120, 26, 2, 1, 0, 0) := rfl
theorem i_71_31 : ins 71 31 = some (.aload_n 0, 32, 0, 0, 0, 0) := rfl
theorem i_71_32 : ins 71 32 = some (.invokevirtual 123, 35, 86, 0, 1, 0) := rfl
theorem i_71_35 : ins 71 35 = some (.ifCond .eq 11, 38, 46, 0, 0, 0) := rfl
theorem i_71_38 : ins 71 38 = some (.new 69, 41, 0, 1, 0, 0) := rfl
theorem i_71_46 : ins 71 46 = some (.iconst 0, 47, 0, 0, 0, 0) := rfl
theorem i_71_47 : ins 71 47 = some (.istore_n 1, 48, 1, 0, 0, 0) := rfl
theorem S71_0 {Q : Ou → Prop} {M : Mem} {κ : Kp} (hκ : Rd κ) {nb : Nat} (hnb6 : nb ≤ 6) (hnb : M 0 6 = nI nb)  {r_17 : Bool} {r_32 : Bool}
    (o1 : ¬ (nb < 1) → Run 85 (0, entL 85 [.ref 0], [], M, κ) (.inl (some (.int (bI r_17))), M, κ))
    (o2 : ¬ (nb < 1) → ¬ (r_17 = true) → Run 86 (0, entL 86 [.ref 0], [], M, κ) (.inl (some (.int (bI r_32))), M, κ))
    (k1 : nb < 1 → Q (.inr 1, M, (κ.1, κ.2.1, κ.2.2.1, kN κ, kC κ + 1, kU κ + 6)))
    (k2 : ¬ (nb < 1) → r_17 = true → Q (.inr 2, M, (κ.1, κ.2.1, κ.2.2.1, kN κ, kC κ + 1, kU κ + 6)))
    (k3 : ¬ (nb < 1) → ¬ (r_17 = true) → r_32 = true → Q (.inr 0, M, (κ.1, κ.2.1, κ.2.2.1, kN κ, kC κ + 1, kU κ + 6)))
    (k4 : ¬ (nb < 1) → ¬ (r_17 = true) → ¬ (r_32 = true) → RT 71 (48, [.ref 0, .int (nI 0)], [], M, κ) Q)
    : RT 71 (0, [.ref 0, UU], [], M, κ) Q := by
  refine w_load i_71_0 rfl rfl ?_
  refine w_getI (v := (nI nb)) i_71_1 hκ (⟨rfl, by decide⟩ : isOb 0 6) rfl (hnb) ?_
  refine w_push i_71_4 rfl ?_
  refine w_if2n (nb < 1) i_71_5 (cN_ge (a := nb) (b := 1) (by omega) (by omega)) ?_ ?_
  · intro h1
    exact w_throw i_71_8 rfl hκ (by decide) rfl (Nat.le_of_ble_eq_true rfl) (k1 h1)
  · intro h2
    refine w_load i_71_16 rfl rfl ?_
    refine w_callV (i := _) i_71_17 ⟨by decide, by decide, by decide, rfl⟩ hκ (⟨rfl, by decide⟩ : isOb 0 6) (av := []) (rest := []) rfl rfl (Nat.le_of_ble_eq_true rfl) (v := some (.int (bI r_17))) (o1 h2) ?_
    refine w_if0n (r_17 = true) i_71_20 cB_eq ?_ ?_
    · intro h3
      exact w_throw i_71_23 rfl hκ (by decide) rfl (Nat.le_of_ble_eq_true rfl) (k2 h2 h3)
    · intro h4
      refine w_load i_71_31 rfl rfl ?_
      refine w_callV (i := _) i_71_32 ⟨by decide, by decide, by decide, rfl⟩ hκ (⟨rfl, by decide⟩ : isOb 0 6) (av := []) (rest := []) rfl rfl (Nat.le_of_ble_eq_true rfl) (v := some (.int (bI r_32))) (o2 h2 h4) ?_
      refine w_if0n (r_32 = true) i_71_35 cB_eq ?_ ?_
      · intro h5
        exact w_throw i_71_38 rfl hκ (by decide) rfl (Nat.le_of_ble_eq_true rfl) (k3 h2 h4 h5)
      · intro h6
        refine w_push i_71_46 rfl ?_
        refine w_store (l1 := [.ref 0, .int 0]) i_71_47 rfl (Nat.le_of_ble_eq_true rfl) rfl ?_
        exact (k4 h2 h4 h6)
theorem i_71_48 : ins 71 48 = some (.iload_n 1, 49, 1, 0, 0, 0) := rfl
theorem i_71_49 : ins 71 49 = some (.aload_n 0, 50, 0, 0, 0, 0) := rfl
theorem i_71_50 : ins 71 50 = some (.getfield 47, 53, 6, 6, 0, 0) := rfl
theorem i_71_53 : ins 71 53 = some (.if_icmp .ge 24, 56, 77, 0, 0, 0) := rfl
theorem i_71_56 : ins 71 56 = some (.aload_n 0, 57, 0, 0, 0, 0) := rfl
theorem i_71_57 : ins 71 57 = some (.getfield 22, 60, 6, 2, 0, 0) := rfl
theorem i_71_60 : ins 71 60 = some (.iload_n 1, 61, 1, 0, 0, 0) := rfl
theorem i_71_61 : ins 71 61 = some (.aaload, 62, 0, 0, 0, 0) := rfl
theorem i_71_62 : ins 71 62 = some (.aload_n 0, 63, 0, 0, 0, 0) := rfl
theorem i_71_63 : ins 71 63 = some (.getfield 18, 66, 6, 1, 0, 0) := rfl
theorem i_71_66 : ins 71 66 = some (.iload_n 1, 67, 1, 0, 0, 0) := rfl
theorem i_71_67 : ins 71 67 = some (.aaload, 68, 0, 0, 0, 0) := rfl
theorem i_71_68 : ins 71 68 = some (.invokevirtual 126, 71, 3, 0, 2, 0) := rfl
theorem i_71_77 : ins 71 77 = some (.aload_n 0, 78, 0, 0, 0, 0) := rfl
theorem i_71_78 : ins 71 78 = some (.getfield 22, 81, 6, 2, 0, 0) := rfl
theorem i_71_81 : ins 71 81 = some (.aload_n 0, 82, 0, 0, 0, 0) := rfl
theorem i_71_82 : ins 71 82 = some (.getfield 47, 85, 6, 6, 0, 0) := rfl
theorem i_71_85 : ins 71 85 = some (.invokestatic 130, 88, 87, 1, 2, 0) := rfl
theorem S71_48 {Q : Ou → Prop} {M : Mem} {κ : Kp} (hκ : Rd κ) {nb x : Nat} (hx : x ≤ nb) (hnb6 : nb ≤ 6) (hnb : M 0 6 = nI nb) 
    (k1 : x < nb → RT 3 (0, entL 3 [.ref (12 + 18 * x), .ref (5 + 18 * x)], [], M, κ) (fun o => ∃ v M1 κ1, o = (.inl v, M1, κ1) ∧ RT 71 (71, [.ref 0, .int (nI x)], v.toList ++ [], M1, κ1) Q))
    (k2 : ¬ (x < nb) → RT 87 (0, entL 87 [.ref 3, .int (nI nb)], [], M, κ) (fun o => ∃ v M1 κ1, o = (.inl v, M1, κ1) ∧ RT 71 (88, [.ref 0, .int (nI x)], v.toList ++ [], M1, κ1) Q))
    : RT 71 (48, [.ref 0, .int (nI x)], [], M, κ) Q := by
  refine w_load i_71_48 rfl rfl ?_
  refine w_load i_71_49 rfl rfl ?_
  refine w_getI (v := (nI nb)) i_71_50 hκ (⟨rfl, by decide⟩ : isOb 0 6) rfl (hnb) ?_
  refine w_if2n (x < nb) i_71_53 (cN_ge (a := x) (b := nb) (by omega) (by omega)) ?_ ?_
  · intro h1
    refine w_load i_71_56 rfl rfl ?_
    refine w_getR 3 i_71_57 hκ (⟨rfl, by decide⟩ : isOb 0 6) rfl rfl ?_
    refine w_load i_71_60 rfl rfl ?_
    refine w_aaldN (e := x) (12 + 18 * x) i_71_61 hκ (⟨by decide, by decide⟩ : (kd 3 = 22 ∨ kd 3 = 23) ∧ 3 < 180) (by omega) rfl ?_
    refine w_load i_71_62 rfl rfl ?_
    refine w_getR 2 i_71_63 hκ (⟨rfl, by decide⟩ : isOb 0 6) rfl rfl ?_
    refine w_load i_71_66 rfl rfl ?_
    refine w_aaldN (e := x) (5 + 18 * x) i_71_67 hκ (⟨by decide, by decide⟩ : (kd 2 = 22 ∨ kd 2 = 23) ∧ 2 < 180) (by omega) rfl ?_
    exact w_callVI (i := _) i_71_68 ⟨by decide, by decide, by decide, rfl⟩ hκ (bl_ob (bl_b (by omega : x < 6))) (av := [.ref (5 + 18 * x)]) (rest := []) rfl rfl (Nat.le_of_ble_eq_true rfl) (k1 h1)
  · intro h2
    refine w_load i_71_77 rfl rfl ?_
    refine w_getR 3 i_71_78 hκ (⟨rfl, by decide⟩ : isOb 0 6) rfl rfl ?_
    refine w_load i_71_81 rfl rfl ?_
    refine w_getI (v := (nI nb)) i_71_82 hκ (⟨rfl, by decide⟩ : isOb 0 6) rfl (hnb) ?_
    exact w_callSI i_71_85 ⟨by decide, by decide, by decide, rfl, rfl⟩ (av := [.ref 3, .int (nI nb)]) (rest := []) rfl rfl (Nat.le_of_ble_eq_true rfl) (k2 h2)
theorem i_71_71 : ins 71 71 = some (.iinc 1 1, 74, 1, 0, 0, 1) := rfl
theorem i_71_74 : ins 71 74 = some (.goto (-26), 77, 48, 0, 0, 0) := rfl
theorem S71_71 {Q : Ou → Prop} {M : Mem} {κ : Kp} (hκ : Rd κ) {x : Nat} (hx : x < 6) 
    (k1 : RT 71 (48, [.ref 0, .int (nI (x + 1))], [], M, κ) Q)
    : RT 71 (71, [.ref 0, .int (nI x)], [], M, κ) Q := by
  refine w_iincN (n := x) (l1 := [.ref 0, .int (nI (x + 1))]) 1 i_71_71 rfl rfl ?_
  refine w_goto i_71_74 ?_
  exact (k1)
theorem i_71_88 : ins 71 88 = some (.aload_n 0, 89, 0, 0, 0, 0) := rfl
theorem i_71_89 : ins 71 89 = some (.iconst 1, 90, 0, 0, 0, 1) := rfl
theorem i_71_90 : ins 71 90 = some (.putfield 51, 93, 6, 7, 0, 0) := rfl
theorem i_71_93 : ins 71 93 = some (.aload_n 0, 94, 0, 0, 0, 0) := rfl
theorem i_71_94 : ins 71 94 = some (.invokevirtual 134, 97, 90, 0, 1, 0) := rfl
theorem i_71_97 : ins 71 97 = some (.ireturn, 98, 0, 0, 0, 0) := rfl
theorem S71_88 {Q : Ou → Prop} {M : Mem} {κ : Kp} (hκ : Rd κ)  
    (k1 : RT 90 (0, entL 90 [.ref 0], [], (stM M 0 7 1), κ) (fun o => ∃ v M1 κ1, o = (.inl v, M1, κ1) ∧ RT 71 (97, [.ref 0, UU], v.toList ++ [], M1, κ1) Q))
    : RT 71 (88, [.ref 0, UU], [], M, κ) Q := by
  refine w_load i_71_88 rfl rfl ?_
  refine w_push i_71_89 rfl ?_
  refine w_putI i_71_90 hκ (⟨rfl, by decide⟩ : isOb 0 6) rfl (fun _ => rfl) ?_
  refine w_load i_71_93 rfl rfl ?_
  exact w_callVI (i := _) i_71_94 ⟨by decide, by decide, by decide, rfl⟩ hκ (⟨rfl, by decide⟩ : isOb 0 6) (av := []) (rest := []) rfl rfl (Nat.le_of_ble_eq_true rfl) (k1)
theorem S71_97 {Q : Ou → Prop} {M : Mem} {κ : Kp} (hκ : Rd κ)  {rw : Int32}
    (k1 : Q (.inl (some (.int rw)), M, κ))
    : RT 71 (97, [UU, UU], [.int rw], M, κ) Q := by
  exact w_iret i_71_97 (.inl rfl) (k1)
theorem i_106_0 : ins 106 0 = some (.iconst 0, 1, 0, 0, 0, 0) := rfl
theorem i_106_1 : ins 106 1 = some (.istore_n 1, 2, 1, 0, 0, 0) := rfl
theorem i_106_2 : ins 106 2 = some (.iconst 0, 3, 0, 0, 0, 0) := rfl
theorem i_106_3 : ins 106 3 = some (.istore_n 2, 4, 2, 0, 0, 0) := rfl
theorem S106_0 {Q : Ou → Prop} {M : Mem} {κ : Kp} (hκ : Rd κ)  
    (k1 : RT 106 (4, [.ref 134, .int 0, .int (nI 0)], [], M, κ) Q)
    : RT 106 (0, [.ref 134, UU, UU], [], M, κ) Q := by
  refine w_push i_106_0 rfl ?_
  refine w_store (l1 := [.ref 134, .int 0, UU]) i_106_1 rfl (Nat.le_of_ble_eq_true rfl) rfl ?_
  refine w_push i_106_2 rfl ?_
  refine w_store (l1 := [.ref 134, .int 0, .int 0]) i_106_3 rfl (Nat.le_of_ble_eq_true rfl) rfl ?_
  exact (k1)
theorem i_106_4 : ins 106 4 = some (.iload_n 2, 5, 2, 0, 0, 0) := rfl
theorem i_106_5 : ins 106 5 = some (.aload_n 0, 6, 0, 0, 0, 0) := rfl
theorem i_106_6 : ins 106 6 = some (.getfield 174, 9, 7, 7, 0, 0) := rfl
theorem i_106_9 : ins 106 9 = some (.if_icmp .ge 69, 12, 78, 0, 0, 0) := rfl
theorem i_106_12 : ins 106 12 = some (.iload_n 1, 13, 1, 0, 0, 0) := rfl
theorem i_106_13 : ins 106 13 = some (.ifCond .ne 53, 16, 66, 0, 0, 0) := rfl
theorem i_106_16 : ins 106 16 = some (.aload_n 0, 17, 0, 0, 0, 0) := rfl
theorem i_106_17 : ins 106 17 = some (.getfield 28, 20, 7, 8, 0, 0) := rfl
theorem i_106_20 : ins 106 20 = some (.iload_n 2, 21, 2, 0, 0, 0) := rfl
theorem i_106_21 : ins 106 21 = some (.iaload, 22, 0, 0, 0, 0) := rfl
theorem i_106_22 : ins 106 22 = some (.invokestatic 177, 25, 103, 1, 1, 0) := rfl
theorem i_106_25 : ins 106 25 = some (.ifCond .eq 16, 28, 41, 0, 0, 0) := rfl
theorem i_106_28 : ins 106 28 = some (.aload_n 0, 29, 0, 0, 0, 0) := rfl
theorem i_106_29 : ins 106 29 = some (.getfield 35, 32, 7, 10, 0, 0) := rfl
theorem i_106_32 : ins 106 32 = some (.iload_n 2, 33, 2, 0, 0, 0) := rfl
theorem i_106_33 : ins 106 33 = some (.iaload, 34, 0, 0, 0, 0) := rfl
theorem i_106_34 : ins 106 34 = some (.aload_n 0, 35, 0, 0, 0, 0) := rfl
theorem i_106_35 : ins 106 35 = some (.getfield 174, 38, 7, 7, 0, 0) := rfl
theorem i_106_38 : ins 106 38 = some (.if_icmp .ge 28, 41, 66, 0, 0, 0) := rfl
theorem i_106_41 : ins 106 41 = some (.aload_n 0, 42, 0, 0, 0, 0) := rfl
theorem i_106_42 : ins 106 42 = some (.getfield 28, 45, 7, 8, 0, 0) := rfl
theorem i_106_45 : ins 106 45 = some (.iload_n 2, 46, 2, 0, 0, 0) := rfl
theorem i_106_46 : ins 106 46 = some (.iaload, 47, 0, 0, 0, 0) := rfl
theorem i_106_47 : ins 106 47 = some (.invokestatic 180, 50, 104, 1, 1, 0) := rfl
theorem i_106_50 : ins 106 50 = some (.ifCond .eq 20, 53, 70, 0, 0, 0) := rfl
theorem i_106_53 : ins 106 53 = some (.aload_n 0, 54, 0, 0, 0, 0) := rfl
theorem i_106_54 : ins 106 54 = some (.getfield 38, 57, 7, 11, 0, 0) := rfl
theorem i_106_57 : ins 106 57 = some (.iload_n 2, 58, 2, 0, 0, 0) := rfl
theorem i_106_58 : ins 106 58 = some (.iaload, 59, 0, 0, 0, 0) := rfl
theorem i_106_59 : ins 106 59 = some (.aload_n 0, 60, 0, 0, 0, 0) := rfl
theorem i_106_60 : ins 106 60 = some (.getfield 174, 63, 7, 7, 0, 0) := rfl
theorem i_106_63 : ins 106 63 = some (.if_icmp .lt 7, 66, 70, 0, 0, 0) := rfl
theorem i_106_66 : ins 106 66 = some (.iconst 1, 67, 0, 0, 0, 1) := rfl
theorem i_106_67 : ins 106 67 = some (.goto 4, 70, 71, 0, 0, 0) := rfl
theorem i_106_70 : ins 106 70 = some (.iconst 0, 71, 0, 0, 0, 0) := rfl
theorem i_106_71 : ins 106 71 = some (.istore_n 1, 72, 1, 0, 0, 0) := rfl
theorem i_106_72 : ins 106 72 = some (.iinc 2 1, 75, 2, 0, 0, 1) := rfl
theorem i_106_75 : ins 106 75 = some (.goto (-71), 78, 4, 0, 0, 0) := rfl
theorem i_106_78 : ins 106 78 = some (.iload_n 1, 79, 1, 0, 0, 0) := rfl
theorem i_106_79 : ins 106 79 = some (.ireturn, 80, 0, 0, 0, 0) := rfl
theorem S106_4 {Q : Ou → Prop} {M : Mem} {κ : Kp} (hκ : Rd κ) {nb x : Nat} {e : Nat → Int32} {t f : Nat → Nat} (hx : x ≤ nb) (hnb6 : nb ≤ 6) (htf : x < nb → t x < 6 ∧ f x < 6) (hnb : M 134 7 = nI nb) (hg135 : x < nb → M 135 x = e x) (hg137 : x < nb → M 137 x = nI (t x)) (hg138 : x < nb → M 138 x = nI (f x)) {lo : Bool}
    (k1 : x < nb → RT 106 (4, [.ref 134, .int (bI (if lo = true then true else (if (goes (e x)) = true then (if (t x) < nb then (if (forks (e x)) = true then (if (f x) < nb then false else true) else false) else true) else (if (forks (e x)) = true then (if (f x) < nb then false else true) else false)))), .int (nI (x + 1))], [], M, κ) Q)
    (k2 : ¬ (x < nb) → Q (.inl (some (.int (bI lo))), M, κ))
    : RT 106 (4, [.ref 134, .int (bI lo), .int (nI x)], [], M, κ) Q := by
  refine w_load i_106_4 rfl rfl ?_
  refine w_load i_106_5 rfl rfl ?_
  refine w_getI (v := (nI nb)) i_106_6 hκ (⟨rfl, by decide⟩ : isOb 134 7) rfl (hnb) ?_
  refine w_if2n (x < nb) i_106_9 (cN_ge (a := x) (b := nb) (by omega) (by omega)) ?_ ?_
  · intro h1
    refine w_load i_106_12 rfl rfl ?_
    have K2 : RT 106 (71, [.ref 134, .int (bI lo), .int (nI x)], [.int (bI (if lo = true then true else (if (goes (e x)) = true then (if (t x) < nb then (if (forks (e x)) = true then (if (f x) < nb then false else true) else false) else true) else (if (forks (e x)) = true then (if (f x) < nb then false else true) else false))))], M, κ) Q := by
      refine w_store (l1 := [.ref 134, .int (bI (if lo = true then true else (if (goes (e x)) = true then (if (t x) < nb then (if (forks (e x)) = true then (if (f x) < nb then false else true) else false) else true) else (if (forks (e x)) = true then (if (f x) < nb then false else true) else false)))), .int (nI x)]) i_106_71 rfl (Nat.le_of_ble_eq_true rfl) rfl ?_
      refine w_iincN (n := x) (l1 := [.ref 134, .int (bI (if lo = true then true else (if (goes (e x)) = true then (if (t x) < nb then (if (forks (e x)) = true then (if (f x) < nb then false else true) else false) else true) else (if (forks (e x)) = true then (if (f x) < nb then false else true) else false)))), .int (nI (x + 1))]) 1 i_106_72 rfl rfl ?_
      refine w_goto i_106_75 ?_
      exact (k1 h1)
    refine w_if0 (lo = true) i_106_13 cB_ne ?_ ?_
    · intro h3
      refine w_push i_106_66 rfl ?_
      refine w_goto i_106_67 ?_
      exact (by first | exact (K2) | (have K9 := K2; simp only [↓if_pos h3] at K9 ⊢; exact (K9)))
    · intro h4
      refine w_load i_106_16 rfl rfl ?_
      refine w_getR 135 i_106_17 hκ (⟨rfl, by decide⟩ : isOb 134 7) rfl rfl ?_
      refine w_load i_106_20 rfl rfl ?_
      refine w_ialdN (e := x) (v := (e x)) i_106_21 hκ (⟨rfl, rfl, by decide⟩ : isAr 135 6) (by omega) (by decide) ((hg135 (by omega))) ?_
      refine w_callS i_106_22 ⟨by decide, by decide, by decide, rfl, rfl⟩ (av := [.int (e x)]) (rest := []) rfl rfl (Nat.le_of_ble_eq_true rfl) (v := some (.int (bI (goes (e x))))) (c103 hκ) ?_
      refine w_if0n ((goes (e x)) = true) i_106_25 cB_eq ?_ ?_
      · intro h5
        refine w_load i_106_28 rfl rfl ?_
        refine w_getR 137 i_106_29 hκ (⟨rfl, by decide⟩ : isOb 134 7) rfl rfl ?_
        refine w_load i_106_32 rfl rfl ?_
        refine w_ialdN (e := x) (v := (nI (t x))) i_106_33 hκ (⟨rfl, rfl, by decide⟩ : isAr 137 6) (by omega) (by decide) ((hg137 (by omega))) ?_
        refine w_load i_106_34 rfl rfl ?_
        refine w_getI (v := (nI nb)) i_106_35 hκ (⟨rfl, by decide⟩ : isOb 134 7) rfl (hnb) ?_
        refine w_if2n ((t x) < nb) i_106_38 (cN_ge (a := (t x)) (b := nb) (by omega) (by omega)) ?_ ?_
        · intro h6
          refine w_load i_106_41 rfl rfl ?_
          refine w_getR 135 i_106_42 hκ (⟨rfl, by decide⟩ : isOb 134 7) rfl rfl ?_
          refine w_load i_106_45 rfl rfl ?_
          refine w_ialdN (e := x) (v := (e x)) i_106_46 hκ (⟨rfl, rfl, by decide⟩ : isAr 135 6) (by omega) (by decide) ((hg135 (by omega))) ?_
          refine w_callS i_106_47 ⟨by decide, by decide, by decide, rfl, rfl⟩ (av := [.int (e x)]) (rest := []) rfl rfl (Nat.le_of_ble_eq_true rfl) (v := some (.int (bI (forks (e x))))) (c104 hκ) ?_
          refine w_if0n ((forks (e x)) = true) i_106_50 cB_eq ?_ ?_
          · intro h7
            refine w_load i_106_53 rfl rfl ?_
            refine w_getR 138 i_106_54 hκ (⟨rfl, by decide⟩ : isOb 134 7) rfl rfl ?_
            refine w_load i_106_57 rfl rfl ?_
            refine w_ialdN (e := x) (v := (nI (f x))) i_106_58 hκ (⟨rfl, rfl, by decide⟩ : isAr 138 6) (by omega) (by decide) ((hg138 (by omega))) ?_
            refine w_load i_106_59 rfl rfl ?_
            refine w_getI (v := (nI nb)) i_106_60 hκ (⟨rfl, by decide⟩ : isOb 134 7) rfl (hnb) ?_
            refine w_if2 ((f x) < nb) i_106_63 (cN_lt (a := (f x)) (b := nb) (by omega) (by omega)) ?_ ?_
            · intro h8
              refine w_push i_106_70 rfl ?_
              exact (by first | exact (K2) | (have K9 := K2; simp only [↓if_neg h4, ↓if_pos h5, ↓if_pos h6, ↓if_pos h7, ↓if_pos h8] at K9 ⊢; exact (K9)))
            · intro h9
              refine w_push i_106_66 rfl ?_
              refine w_goto i_106_67 ?_
              exact (by first | exact (K2) | (have K9 := K2; simp only [↓if_neg h4, ↓if_pos h5, ↓if_pos h6, ↓if_pos h7, ↓if_neg h9] at K9 ⊢; exact (K9)))
          · intro h10
            refine w_push i_106_70 rfl ?_
            exact (by first | exact (K2) | (have K9 := K2; simp only [↓if_neg h4, ↓if_pos h5, ↓if_pos h6, ↓if_neg h10] at K9 ⊢; exact (K9)))
        · intro h11
          refine w_push i_106_66 rfl ?_
          refine w_goto i_106_67 ?_
          exact (by first | exact (K2) | (have K9 := K2; simp only [↓if_neg h4, ↓if_pos h5, ↓if_neg h11] at K9 ⊢; exact (K9)))
      · intro h12
        refine w_load i_106_41 rfl rfl ?_
        refine w_getR 135 i_106_42 hκ (⟨rfl, by decide⟩ : isOb 134 7) rfl rfl ?_
        refine w_load i_106_45 rfl rfl ?_
        refine w_ialdN (e := x) (v := (e x)) i_106_46 hκ (⟨rfl, rfl, by decide⟩ : isAr 135 6) (by omega) (by decide) ((hg135 (by omega))) ?_
        refine w_callS i_106_47 ⟨by decide, by decide, by decide, rfl, rfl⟩ (av := [.int (e x)]) (rest := []) rfl rfl (Nat.le_of_ble_eq_true rfl) (v := some (.int (bI (forks (e x))))) (c104 hκ) ?_
        refine w_if0n ((forks (e x)) = true) i_106_50 cB_eq ?_ ?_
        · intro h13
          refine w_load i_106_53 rfl rfl ?_
          refine w_getR 138 i_106_54 hκ (⟨rfl, by decide⟩ : isOb 134 7) rfl rfl ?_
          refine w_load i_106_57 rfl rfl ?_
          refine w_ialdN (e := x) (v := (nI (f x))) i_106_58 hκ (⟨rfl, rfl, by decide⟩ : isAr 138 6) (by omega) (by decide) ((hg138 (by omega))) ?_
          refine w_load i_106_59 rfl rfl ?_
          refine w_getI (v := (nI nb)) i_106_60 hκ (⟨rfl, by decide⟩ : isOb 134 7) rfl (hnb) ?_
          refine w_if2 ((f x) < nb) i_106_63 (cN_lt (a := (f x)) (b := nb) (by omega) (by omega)) ?_ ?_
          · intro h14
            refine w_push i_106_70 rfl ?_
            exact (by first | exact (K2) | (have K9 := K2; simp only [↓if_neg h4, ↓if_neg h12, ↓if_pos h13, ↓if_pos h14] at K9 ⊢; exact (K9)))
          · intro h15
            refine w_push i_106_66 rfl ?_
            refine w_goto i_106_67 ?_
            exact (by first | exact (K2) | (have K9 := K2; simp only [↓if_neg h4, ↓if_neg h12, ↓if_pos h13, ↓if_neg h15] at K9 ⊢; exact (K9)))
        · intro h16
          refine w_push i_106_70 rfl ?_
          exact (by first | exact (K2) | (have K9 := K2; simp only [↓if_neg h4, ↓if_neg h12, ↓if_neg h16] at K9 ⊢; exact (K9)))
  · intro h17
    refine w_load i_106_78 rfl rfl ?_
    exact w_iret i_106_79 (.inr ⟨rfl, isB_bI _⟩) (k2 h17)
theorem i_107_4 : ins 107 4 = some (.iload_n 2, 5, 2, 0, 0, 0) := rfl
theorem i_107_5 : ins 107 5 = some (.aload_n 0, 6, 0, 0, 0, 0) := rfl
theorem i_107_6 : ins 107 6 = some (.getfield 174, 9, 7, 7, 0, 0) := rfl
theorem i_107_9 : ins 107 9 = some (.if_icmp .ge 82, 12, 91, 0, 0, 0) := rfl
theorem i_107_12 : ins 107 12 = some (.bipush 10, 14, 0, 0, 0, 10) := rfl
theorem i_107_14 : ins 107 14 = some (.iload_n 2, 15, 2, 0, 0, 0) := rfl
theorem i_107_15 : ins 107 15 = some (.imul, 16, 0, 0, 0, 0) := rfl
theorem i_107_16 : ins 107 16 = some (.istore_n 3, 17, 3, 0, 0, 0) := rfl
theorem i_107_91 : ins 107 91 = some (.iload_n 1, 92, 1, 0, 0, 0) := rfl
theorem i_107_92 : ins 107 92 = some (.ireturn, 93, 0, 0, 0, 0) := rfl
theorem S107_4 {Q : Ou → Prop} {M : Mem} {κ : Kp} (hκ : Rd κ) {nb x : Nat} (hx : x ≤ nb) (hnb6 : nb ≤ 6) (hnb : M 134 7 = nI nb) {sp : Bool}
    (k1 : x < nb → RT 107 (17, [.ref 134, .int (bI sp), .int (nI x), .int (nI (10 * x))], [], M, κ) Q)
    (k2 : ¬ (x < nb) → Q (.inl (some (.int (bI sp))), M, κ))
    : RT 107 (4, [.ref 134, .int (bI sp), .int (nI x), UU], [], M, κ) Q := by
  refine w_load i_107_4 rfl rfl ?_
  refine w_load i_107_5 rfl rfl ?_
  refine w_getI (v := (nI nb)) i_107_6 hκ (⟨rfl, by decide⟩ : isOb 134 7) rfl (hnb) ?_
  refine w_if2n (x < nb) i_107_9 (cN_ge (a := x) (b := nb) (by omega) (by omega)) ?_ ?_
  · intro h1
    refine w_push i_107_12 rfl ?_
    refine w_load i_107_14 rfl rfl ?_
    refine w_bin (w := (nI (10 * x))) i_107_15 rfl (nI_mul 10 x) ?_
    refine w_store (l1 := [.ref 134, .int (bI sp), .int (nI x), .int (nI (10 * x))]) i_107_16 rfl (Nat.le_of_ble_eq_true rfl) rfl ?_
    exact (k1 h1)
  · intro h2
    refine w_load i_107_91 rfl rfl ?_
    exact w_iret i_107_92 (.inr ⟨rfl, isB_bI _⟩) (k2 h2)
theorem i_107_0 : ins 107 0 = some (.iconst 0, 1, 0, 0, 0, 0) := rfl
theorem i_107_1 : ins 107 1 = some (.istore_n 1, 2, 1, 0, 0, 0) := rfl
theorem i_107_2 : ins 107 2 = some (.iconst 0, 3, 0, 0, 0, 0) := rfl
theorem i_107_3 : ins 107 3 = some (.istore_n 2, 4, 2, 0, 0, 0) := rfl
theorem S107_0 {Q : Ou → Prop} {M : Mem} {κ : Kp} (hκ : Rd κ)  
    (k1 : RT 107 (4, [.ref 134, .int 0, .int (nI 0), UU], [], M, κ) Q)
    : RT 107 (0, [.ref 134, UU, UU, UU], [], M, κ) Q := by
  refine w_push i_107_0 rfl ?_
  refine w_store (l1 := [.ref 134, .int 0, UU, UU]) i_107_1 rfl (Nat.le_of_ble_eq_true rfl) rfl ?_
  refine w_push i_107_2 rfl ?_
  refine w_store (l1 := [.ref 134, .int 0, .int 0, UU]) i_107_3 rfl (Nat.le_of_ble_eq_true rfl) rfl ?_
  exact (k1)
theorem i_107_17 : ins 107 17 = some (.iload_n 3, 18, 3, 0, 0, 0) := rfl
theorem i_107_18 : ins 107 18 = some (.bipush 10, 20, 0, 0, 0, 10) := rfl
theorem i_107_20 : ins 107 20 = some (.iload_n 2, 21, 2, 0, 0, 0) := rfl
theorem i_107_21 : ins 107 21 = some (.imul, 22, 0, 0, 0, 0) := rfl
theorem i_107_22 : ins 107 22 = some (.aload_n 0, 23, 0, 0, 0, 0) := rfl
theorem i_107_23 : ins 107 23 = some (.getfield 41, 26, 7, 12, 0, 0) := rfl
theorem i_107_26 : ins 107 26 = some (.iload_n 2, 27, 2, 0, 0, 0) := rfl
theorem i_107_27 : ins 107 27 = some (.iaload, 28, 0, 0, 0, 0) := rfl
theorem i_107_28 : ins 107 28 = some (.iadd, 29, 0, 0, 0, 0) := rfl
theorem i_107_29 : ins 107 29 = some (.if_icmp .ge 56, 32, 85, 0, 0, 0) := rfl
theorem i_107_32 : ins 107 32 = some (.iload_n 1, 33, 1, 0, 0, 0) := rfl
theorem i_107_33 : ins 107 33 = some (.ifCond .ne 40, 36, 73, 0, 0, 0) := rfl
theorem i_107_36 : ins 107 36 = some (.aload_n 0, 37, 0, 0, 0, 0) := rfl
theorem i_107_37 : ins 107 37 = some (.getfield 28, 40, 7, 8, 0, 0) := rfl
theorem i_107_40 : ins 107 40 = some (.iload_n 2, 41, 2, 0, 0, 0) := rfl
theorem i_107_41 : ins 107 41 = some (.iaload, 42, 0, 0, 0, 0) := rfl
theorem i_107_42 : ins 107 42 = some (.iconst 3, 43, 0, 0, 0, 3) := rfl
theorem i_107_43 : ins 107 43 = some (.if_icmp .ne 34, 46, 77, 0, 0, 0) := rfl
theorem i_107_46 : ins 107 46 = some (.aload_n 0, 47, 0, 0, 0, 0) := rfl
theorem i_107_47 : ins 107 47 = some (.getfield 44, 50, 7, 13, 0, 0) := rfl
theorem i_107_50 : ins 107 50 = some (.iload_n 3, 51, 3, 0, 0, 0) := rfl
theorem i_107_51 : ins 107 51 = some (.iaload, 52, 0, 0, 0, 0) := rfl
theorem i_107_52 : ins 107 52 = some (.invokestatic 183, 55, 105, 1, 1, 0) := rfl
theorem i_107_55 : ins 107 55 = some (.ifCond .eq 22, 58, 77, 0, 0, 0) := rfl
theorem i_107_58 : ins 107 58 = some (.aload_n 0, 59, 0, 0, 0, 0) := rfl
theorem i_107_59 : ins 107 59 = some (.getfield 47, 62, 7, 14, 0, 0) := rfl
theorem i_107_62 : ins 107 62 = some (.iload_n 3, 63, 3, 0, 0, 0) := rfl
theorem i_107_63 : ins 107 63 = some (.iaload, 64, 0, 0, 0, 0) := rfl
theorem i_107_64 : ins 107 64 = some (.aload_n 0, 65, 0, 0, 0, 0) := rfl
theorem i_107_65 : ins 107 65 = some (.getfield 32, 68, 7, 9, 0, 0) := rfl
theorem i_107_68 : ins 107 68 = some (.iload_n 2, 69, 2, 0, 0, 0) := rfl
theorem i_107_69 : ins 107 69 = some (.iaload, 70, 0, 0, 0, 0) := rfl
theorem i_107_70 : ins 107 70 = some (.if_icmp .ne 7, 73, 77, 0, 0, 0) := rfl
theorem i_107_73 : ins 107 73 = some (.iconst 1, 74, 0, 0, 0, 1) := rfl
theorem i_107_74 : ins 107 74 = some (.goto 4, 77, 78, 0, 0, 0) := rfl
theorem i_107_77 : ins 107 77 = some (.iconst 0, 78, 0, 0, 0, 0) := rfl
theorem i_107_78 : ins 107 78 = some (.istore_n 1, 79, 1, 0, 0, 0) := rfl
theorem i_107_79 : ins 107 79 = some (.iinc 3 1, 82, 3, 0, 0, 1) := rfl
theorem i_107_82 : ins 107 82 = some (.goto (-65), 85, 17, 0, 0, 0) := rfl
theorem i_107_85 : ins 107 85 = some (.iinc 2 1, 88, 2, 0, 0, 1) := rfl
theorem i_107_88 : ins 107 88 = some (.goto (-84), 91, 4, 0, 0, 0) := rfl
theorem S107_17 {Q : Ou → Prop} {M : Mem} {κ : Kp} (hκ : Rd κ) {x k n2 : Nat} {O : Op} {vx ex : Int32} (hx : x < 6) (hk : k ≤ n2) (hn2 : n2 ≤ 10) (hc2 : M 139 x = nI n2) (hh0 : M 135 x = ex) (hh1 : M 136 x = vx) (hO : ∀ f, f < 6 → ∀ j, j < n2 → M (140 + f) (10 * x + j) = O f j) {sp : Bool}
    (k1 : ((10 * x) + k) < ((10 * x) + n2) → RT 107 (17, [.ref 134, .int (bI (if sp = true then true else (if ex = 3 then (if (isW (O 0 k)) = true then (if (O 1 k) = vx then true else false) else false) else false))), .int (nI x), .int (nI (((10 * x) + k) + 1))], [], M, κ) Q)
    (k2 : ¬ (((10 * x) + k) < ((10 * x) + n2)) → RT 107 (4, [.ref 134, .int (bI sp), .int (nI (x + 1)), UU], [], M, κ) Q)
    : RT 107 (17, [.ref 134, .int (bI sp), .int (nI x), .int (nI ((10 * x) + k))], [], M, κ) Q := by
  refine w_load i_107_17 rfl rfl ?_
  refine w_push i_107_18 rfl ?_
  refine w_load i_107_20 rfl rfl ?_
  refine w_bin (w := (nI (10 * x))) i_107_21 rfl (nI_mul 10 x) ?_
  refine w_load i_107_22 rfl rfl ?_
  refine w_getR 139 i_107_23 hκ (⟨rfl, by decide⟩ : isOb 134 7) rfl rfl ?_
  refine w_load i_107_26 rfl rfl ?_
  refine w_ialdN (e := x) (v := (nI n2)) i_107_27 hκ (⟨rfl, rfl, by decide⟩ : isAr 139 6) (by omega) (by decide) (hc2) ?_
  refine w_bin (w := (nI ((10 * x) + n2))) i_107_28 rfl (nI_add (10 * x) n2) ?_
  refine w_if2n (((10 * x) + k) < ((10 * x) + n2)) i_107_29 (cN_ge (a := ((10 * x) + k)) (b := ((10 * x) + n2)) (by omega) (by omega)) ?_ ?_
  · intro h1
    refine w_load i_107_32 rfl rfl ?_
    have K2 : RT 107 (78, [.ref 134, .int (bI sp), .int (nI x), .int (nI ((10 * x) + k))], [.int (bI (if sp = true then true else (if ex = 3 then (if (isW (O 0 k)) = true then (if (O 1 k) = vx then true else false) else false) else false)))], M, κ) Q := by
      refine w_store (l1 := [.ref 134, .int (bI (if sp = true then true else (if ex = 3 then (if (isW (O 0 k)) = true then (if (O 1 k) = vx then true else false) else false) else false))), .int (nI x), .int (nI ((10 * x) + k))]) i_107_78 rfl (Nat.le_of_ble_eq_true rfl) rfl ?_
      refine w_iincN (n := ((10 * x) + k)) (l1 := [.ref 134, .int (bI (if sp = true then true else (if ex = 3 then (if (isW (O 0 k)) = true then (if (O 1 k) = vx then true else false) else false) else false))), .int (nI x), .int (nI (((10 * x) + k) + 1))]) 1 i_107_79 rfl rfl ?_
      refine w_goto i_107_82 ?_
      exact (k1 h1)
    refine w_if0 (sp = true) i_107_33 cB_ne ?_ ?_
    · intro h3
      refine w_push i_107_73 rfl ?_
      refine w_goto i_107_74 ?_
      exact (by first | exact (K2) | (have K9 := K2; simp only [↓if_pos h3] at K9 ⊢; exact (K9)))
    · intro h4
      refine w_load i_107_36 rfl rfl ?_
      refine w_getR 135 i_107_37 hκ (⟨rfl, by decide⟩ : isOb 134 7) rfl rfl ?_
      refine w_load i_107_40 rfl rfl ?_
      refine w_ialdN (e := x) (v := ex) i_107_41 hκ (⟨rfl, rfl, by decide⟩ : isAr 135 6) (by omega) (by decide) (hh0) ?_
      refine w_push i_107_42 rfl ?_
      refine w_if2n (ex = 3) i_107_43 cI_ne ?_ ?_
      · intro h5
        refine w_load i_107_46 rfl rfl ?_
        refine w_getR 140 i_107_47 hκ (⟨rfl, by decide⟩ : isOb 134 7) rfl rfl ?_
        refine w_load i_107_50 rfl rfl ?_
        refine w_ialdN (e := ((10 * x) + k)) (v := (O 0 k)) i_107_51 hκ (⟨rfl, rfl, by decide⟩ : isAr 140 60) (by omega) (by decide) (hO 0 (by decide) k (by omega)) ?_
        refine w_callS i_107_52 ⟨by decide, by decide, by decide, rfl, rfl⟩ (av := [.int (O 0 k)]) (rest := []) rfl rfl (Nat.le_of_ble_eq_true rfl) (v := some (.int (bI (isW (O 0 k))))) (c105 hκ) ?_
        refine w_if0n ((isW (O 0 k)) = true) i_107_55 cB_eq ?_ ?_
        · intro h6
          refine w_load i_107_58 rfl rfl ?_
          refine w_getR 141 i_107_59 hκ (⟨rfl, by decide⟩ : isOb 134 7) rfl rfl ?_
          refine w_load i_107_62 rfl rfl ?_
          refine w_ialdN (e := ((10 * x) + k)) (v := (O 1 k)) i_107_63 hκ (⟨rfl, rfl, by decide⟩ : isAr 141 60) (by omega) (by decide) (hO 1 (by decide) k (by omega)) ?_
          refine w_load i_107_64 rfl rfl ?_
          refine w_getR 136 i_107_65 hκ (⟨rfl, by decide⟩ : isOb 134 7) rfl rfl ?_
          refine w_load i_107_68 rfl rfl ?_
          refine w_ialdN (e := x) (v := vx) i_107_69 hκ (⟨rfl, rfl, by decide⟩ : isAr 136 6) (by omega) (by decide) (hh1) ?_
          refine w_if2n ((O 1 k) = vx) i_107_70 cI_ne ?_ ?_
          · intro h7
            refine w_push i_107_73 rfl ?_
            refine w_goto i_107_74 ?_
            exact (by first | exact (K2) | (have K9 := K2; simp only [↓if_neg h4, ↓if_pos h5, ↓if_pos h6, ↓if_pos h7] at K9 ⊢; exact (K9)))
          · intro h8
            refine w_push i_107_77 rfl ?_
            exact (by first | exact (K2) | (have K9 := K2; simp only [↓if_neg h4, ↓if_pos h5, ↓if_pos h6, ↓if_neg h8] at K9 ⊢; exact (K9)))
        · intro h9
          refine w_push i_107_77 rfl ?_
          exact (by first | exact (K2) | (have K9 := K2; simp only [↓if_neg h4, ↓if_pos h5, ↓if_neg h9] at K9 ⊢; exact (K9)))
      · intro h10
        refine w_push i_107_77 rfl ?_
        exact (by first | exact (K2) | (have K9 := K2; simp only [↓if_neg h4, ↓if_neg h10] at K9 ⊢; exact (K9)))
  · intro h11
    refine w_iincN (n := x) (l1 := [.ref 134, .int (bI sp), .int (nI (x + 1)), .int (nI ((10 * x) + k))]) 1 i_107_85 rfl rfl ?_
    refine w_goto i_107_88 ?_
    exact w_weak (lle_s (lle_s (lle_s (lle_u lle_n)))) (k2 h11)
theorem i_108_0 : ins 108 0 = some (.aload_n 0, 1, 0, 0, 0, 0) := rfl
theorem i_108_1 : ins 108 1 = some (.aload_n 0, 2, 0, 0, 0, 0) := rfl
theorem i_108_2 : ins 108 2 = some (.getfield 174, 5, 7, 7, 0, 0) := rfl
theorem i_108_5 : ins 108 5 = some (.ifCond .ne 7, 8, 12, 0, 0, 0) := rfl
theorem i_108_8 : ins 108 8 = some (.iconst 1, 9, 0, 0, 0, 1) := rfl
theorem i_108_9 : ins 108 9 = some (.goto 26, 12, 35, 0, 0, 0) := rfl
theorem i_108_12 : ins 108 12 = some (.aload_n 0, 13, 0, 0, 0, 0) := rfl
theorem i_108_13 : ins 108 13 = some (.invokevirtual 186, 16, 106, 0, 1, 0) := rfl
theorem i_108_16 : ins 108 16 = some (.ifCond .eq 7, 19, 23, 0, 0, 0) := rfl
theorem i_108_19 : ins 108 19 = some (.iconst 2, 20, 0, 0, 0, 2) := rfl
theorem i_108_20 : ins 108 20 = some (.goto 15, 23, 35, 0, 0, 0) := rfl
theorem i_108_23 : ins 108 23 = some (.aload_n 0, 24, 0, 0, 0, 0) := rfl
theorem i_108_24 : ins 108 24 = some (.invokevirtual 190, 27, 107, 0, 1, 0) := rfl
theorem i_108_27 : ins 108 27 = some (.ifCond .eq 7, 30, 34, 0, 0, 0) := rfl
theorem i_108_30 : ins 108 30 = some (.iconst 3, 31, 0, 0, 0, 3) := rfl
theorem i_108_31 : ins 108 31 = some (.goto 4, 34, 35, 0, 0, 0) := rfl
theorem i_108_34 : ins 108 34 = some (.iconst 0, 35, 0, 0, 0, 0) := rfl
theorem i_108_35 : ins 108 35 = some (.putfield 159, 38, 7, 0, 0, 0) := rfl
theorem i_108_38 : ins 108 38 = some (.aload_n 0, 39, 0, 0, 0, 0) := rfl
theorem i_108_39 : ins 108 39 = some (.getfield 159, 42, 7, 0, 0, 0) := rfl
theorem i_108_42 : ins 108 42 = some (.ifCond .le 5, 45, 47, 0, 0, 0) := rfl
theorem i_108_45 : ins 108 45 = some (.iconst 0, 46, 0, 0, 0, 0) := rfl
theorem i_108_46 : ins 108 46 = some (.ireturn, 47, 0, 0, 0, 0) := rfl
theorem i_108_47 : ins 108 47 = some (.aload_n 0, 48, 0, 0, 0, 0) := rfl
theorem i_108_48 : ins 108 48 = some (.invokevirtual 193, 51, 109, 0, 1, 0) := rfl
theorem S108_0 {Q : Ou → Prop} {M : Mem} {κ : Kp} (hκ : Rd κ) {nb : Nat} (hnb6 : nb ≤ 6) (hnb : M 134 7 = nI nb)  {r_13 : Bool} {r_24 : Bool}
    (o1 : ¬ (nb = 0) → Run 106 (0, entL 106 [.ref 134], [], M, κ) (.inl (some (.int (bI r_13))), M, κ))
    (o2 : ¬ (nb = 0) → ¬ (r_13 = true) → Run 107 (0, entL 107 [.ref 134], [], M, κ) (.inl (some (.int (bI r_24))), M, κ))
    (k1 : 0 < (nI (if nb = 0 then 1 else (if r_13 = true then 2 else (if r_24 = true then 3 else 0)))) → Q (.inl (some (.int 0)), (stM M 134 0 (nI (if nb = 0 then 1 else (if r_13 = true then 2 else (if r_24 = true then 3 else 0))))), κ))
    (k2 : ¬ (0 < (nI (if nb = 0 then 1 else (if r_13 = true then 2 else (if r_24 = true then 3 else 0))))) → RT 109 (0, entL 109 [.ref 134], [], (stM M 134 0 (nI (if nb = 0 then 1 else (if r_13 = true then 2 else (if r_24 = true then 3 else 0))))), κ) (fun o => ∃ v M1 κ1, o = (.inl v, M1, κ1) ∧ RT 108 (51, [.ref 134, UU, UU], v.toList ++ [], M1, κ1) Q))
    : RT 108 (0, [.ref 134, UU, UU], [], M, κ) Q := by
  refine w_load i_108_0 rfl rfl ?_
  refine w_load i_108_1 rfl rfl ?_
  refine w_getI (v := (nI nb)) i_108_2 hκ (⟨rfl, by decide⟩ : isOb 134 7) rfl (hnb) ?_
  have K1 : RT 108 (35, [.ref 134, UU, UU], [.int (nI (if nb = 0 then 1 else (if r_13 = true then 2 else (if r_24 = true then 3 else 0)))), .ref 134], M, κ) Q := by
    refine w_putI i_108_35 hκ (⟨rfl, by decide⟩ : isOb 134 7) rfl (fun c => absurd c (by decide)) ?_
    refine w_load i_108_38 rfl rfl ?_
    refine w_getI (v := (nI (if nb = 0 then 1 else (if r_13 = true then 2 else (if r_24 = true then 3 else 0))))) i_108_39 hκ (⟨rfl, by decide⟩ : isOb 134 7) rfl (stM_s) ?_
    refine w_if0n (0 < (nI (if nb = 0 then 1 else (if r_13 = true then 2 else (if r_24 = true then 3 else 0))))) i_108_42 cI0_le ?_ ?_
    · intro h2
      refine w_push i_108_45 rfl ?_
      exact w_iret i_108_46 (.inl rfl) (k1 h2)
    · intro h3
      refine w_load i_108_47 rfl rfl ?_
      exact w_callVI (i := _) i_108_48 ⟨by decide, by decide, by decide, rfl⟩ hκ (⟨rfl, by decide⟩ : isOb 134 7) (av := []) (rest := []) rfl rfl (Nat.le_of_ble_eq_true rfl) (k2 h3)
  refine w_if0n (nb = 0) i_108_5 (cZ_ne (a := nb) (by omega) (by decide)) ?_ ?_
  · intro h4
    refine w_push i_108_8 rfl ?_
    refine w_goto i_108_9 ?_
    exact (by first | exact (K1) | (have K9 := K1; simp only [↓if_pos h4] at K9 ⊢; exact (K9)))
  · intro h5
    refine w_load i_108_12 rfl rfl ?_
    refine w_callV (i := _) i_108_13 ⟨by decide, by decide, by decide, rfl⟩ hκ (⟨rfl, by decide⟩ : isOb 134 7) (av := []) (rest := [.ref 134]) rfl rfl (Nat.le_of_ble_eq_true rfl) (v := some (.int (bI r_13))) (o1 h5) ?_
    refine w_if0n (r_13 = true) i_108_16 cB_eq ?_ ?_
    · intro h6
      refine w_push i_108_19 rfl ?_
      refine w_goto i_108_20 ?_
      exact (by first | exact (K1) | (have K9 := K1; simp only [↓if_neg h5, ↓if_pos h6] at K9 ⊢; exact (K9)))
    · intro h7
      refine w_load i_108_23 rfl rfl ?_
      refine w_callV (i := _) i_108_24 ⟨by decide, by decide, by decide, rfl⟩ hκ (⟨rfl, by decide⟩ : isOb 134 7) (av := []) (rest := [.ref 134]) rfl rfl (Nat.le_of_ble_eq_true rfl) (v := some (.int (bI r_24))) (o2 h5 h7) ?_
      refine w_if0n (r_24 = true) i_108_27 cB_eq ?_ ?_
      · intro h8
        refine w_push i_108_30 rfl ?_
        refine w_goto i_108_31 ?_
        exact (by first | exact (K1) | (have K9 := K1; simp only [↓if_neg h5, ↓if_neg h7, ↓if_pos h8] at K9 ⊢; exact (K9)))
      · intro h9
        refine w_push i_108_34 rfl ?_
        exact (by first | exact (K1) | (have K9 := K1; simp only [↓if_neg h5, ↓if_neg h7, ↓if_neg h9] at K9 ⊢; exact (K9)))
theorem i_108_53 : ins 108 53 = some (.iload_n 1, 54, 1, 0, 0, 0) := rfl
theorem i_108_54 : ins 108 54 = some (.aload_n 0, 55, 0, 0, 0, 0) := rfl
theorem i_108_55 : ins 108 55 = some (.getfield 196, 58, 7, 20, 0, 0) := rfl
theorem i_108_58 : ins 108 58 = some (.if_icmp .ge 14, 61, 72, 0, 0, 0) := rfl
theorem i_108_61 : ins 108 61 = some (.aload_n 0, 62, 0, 0, 0, 0) := rfl
theorem i_108_62 : ins 108 62 = some (.iload_n 1, 63, 1, 0, 0, 0) := rfl
theorem i_108_63 : ins 108 63 = some (.invokevirtual 199, 66, 112, 0, 2, 0) := rfl
theorem i_108_72 : ins 108 72 = some (.iconst 0, 73, 0, 0, 0, 0) := rfl
theorem i_108_73 : ins 108 73 = some (.istore_n 1, 74, 1, 0, 0, 0) := rfl
theorem i_108_74 : ins 108 74 = some (.iconst 0, 75, 0, 0, 0, 0) := rfl
theorem i_108_75 : ins 108 75 = some (.istore_n 2, 76, 2, 0, 0, 0) := rfl
theorem S108_53 {Q : Ou → Prop} {M : Mem} {κ : Kp} (hκ : Rd κ) {nb x : Nat} (hx : x ≤ nb) (hnb6 : nb ≤ 6) (hmd : M 134 20 = nI nb) 
    (k1 : x < nb → RT 112 (0, entL 112 [.ref 134, .int (nI x)], [], M, κ) (fun o => ∃ v M1 κ1, o = (.inl v, M1, κ1) ∧ RT 108 (66, [.ref 134, .int (nI x), UU], v.toList ++ [], M1, κ1) Q))
    (k2 : ¬ (x < nb) → RT 108 (76, [.ref 134, .int 0, .int 0], [], M, κ) Q)
    : RT 108 (53, [.ref 134, .int (nI x), UU], [], M, κ) Q := by
  refine w_load i_108_53 rfl rfl ?_
  refine w_load i_108_54 rfl rfl ?_
  refine w_getI (v := (nI nb)) i_108_55 hκ (⟨rfl, by decide⟩ : isOb 134 7) rfl (hmd) ?_
  refine w_if2n (x < nb) i_108_58 (cN_ge (a := x) (b := nb) (by omega) (by omega)) ?_ ?_
  · intro h1
    refine w_load i_108_61 rfl rfl ?_
    refine w_load i_108_62 rfl rfl ?_
    exact w_callVI (i := _) i_108_63 ⟨by decide, by decide, by decide, rfl⟩ hκ (⟨rfl, by decide⟩ : isOb 134 7) (av := [.int (nI x)]) (rest := []) rfl rfl (Nat.le_of_ble_eq_true rfl) (k1 h1)
  · intro h2
    refine w_push i_108_72 rfl ?_
    refine w_store (l1 := [.ref 134, .int 0, UU]) i_108_73 rfl (Nat.le_of_ble_eq_true rfl) rfl ?_
    refine w_push i_108_74 rfl ?_
    refine w_store (l1 := [.ref 134, .int 0, .int 0]) i_108_75 rfl (Nat.le_of_ble_eq_true rfl) rfl ?_
    exact (k2 h2)
theorem i_108_51 : ins 108 51 = some (.iconst 0, 52, 0, 0, 0, 0) := rfl
theorem i_108_52 : ins 108 52 = some (.istore_n 1, 53, 1, 0, 0, 0) := rfl
theorem S108_51 {Q : Ou → Prop} {M : Mem} {κ : Kp} (hκ : Rd κ)  
    (k1 : RT 108 (53, [.ref 134, .int (nI 0), UU], [], M, κ) Q)
    : RT 108 (51, [.ref 134, UU, UU], [], M, κ) Q := by
  refine w_push i_108_51 rfl ?_
  refine w_store (l1 := [.ref 134, .int 0, UU]) i_108_52 rfl (Nat.le_of_ble_eq_true rfl) rfl ?_
  exact (k1)
theorem i_108_66 : ins 108 66 = some (.iinc 1 1, 69, 1, 0, 0, 1) := rfl
theorem i_108_69 : ins 108 69 = some (.goto (-16), 72, 53, 0, 0, 0) := rfl
theorem S108_66 {Q : Ou → Prop} {M : Mem} {κ : Kp} (hκ : Rd κ) {x : Nat} (hx : x < 6) 
    (k1 : RT 108 (53, [.ref 134, .int (nI (x + 1)), UU], [], M, κ) Q)
    : RT 108 (66, [.ref 134, .int (nI x), UU], [], M, κ) Q := by
  refine w_iincN (n := x) (l1 := [.ref 134, .int (nI (x + 1)), UU]) 1 i_108_66 rfl rfl ?_
  refine w_goto i_108_69 ?_
  exact (k1)
theorem i_108_76 : ins 108 76 = some (.iload_n 2, 77, 2, 0, 0, 0) := rfl
theorem i_108_77 : ins 108 77 = some (.aload_n 0, 78, 0, 0, 0, 0) := rfl
theorem i_108_78 : ins 108 78 = some (.getfield 196, 81, 7, 20, 0, 0) := rfl
theorem i_108_81 : ins 108 81 = some (.if_icmp .ge 53, 84, 134, 0, 0, 0) := rfl
theorem i_108_84 : ins 108 84 = some (.aload_n 0, 85, 0, 0, 0, 0) := rfl
theorem i_108_85 : ins 108 85 = some (.getfield 62, 88, 7, 21, 0, 0) := rfl
theorem i_108_88 : ins 108 88 = some (.iload_n 2, 89, 2, 0, 0, 0) := rfl
theorem i_108_89 : ins 108 89 = some (.baload, 90, 0, 0, 0, 0) := rfl
theorem i_108_90 : ins 108 90 = some (.ifCond .eq 6, 93, 96, 0, 0, 0) := rfl
theorem i_108_93 : ins 108 93 = some (.goto 35, 96, 128, 0, 0, 0) := rfl
theorem i_108_96 : ins 108 96 = some (.aload_n 0, 97, 0, 0, 0, 0) := rfl
theorem i_108_97 : ins 108 97 = some (.iload_n 2, 98, 2, 0, 0, 0) := rfl
theorem i_108_98 : ins 108 98 = some (.invokevirtual 203, 101, 131, 0, 2, 0) := rfl
theorem i_108_128 : ins 108 128 = some (.iinc 2 1, 131, 2, 0, 0, 1) := rfl
theorem i_108_131 : ins 108 131 = some (.goto (-55), 134, 76, 0, 0, 0) := rfl
theorem i_108_134 : ins 108 134 = some (.aload_n 0, 135, 0, 0, 0, 0) := rfl
theorem i_108_135 : ins 108 135 = some (.iconst 1, 136, 0, 0, 0, 1) := rfl
theorem i_108_136 : ins 108 136 = some (.putfield 170, 139, 7, 19, 0, 0) := rfl
theorem i_108_139 : ins 108 139 = some (.iload_n 1, 140, 1, 0, 0, 0) := rfl
theorem i_108_140 : ins 108 140 = some (.ireturn, 141, 0, 0, 0, 0) := rfl
theorem S108_76 {Q : Ou → Prop} {M : Mem} {κ : Kp} (hκ : Rd κ) {nb x : Nat} (hx : x ≤ nb) (hnb6 : nb ≤ 6) (hmd : M 134 20 = nI nb) {ro : Int32}
    (k1 : x < nb → (M 146 x) = 0 → RT 131 (0, entL 131 [.ref 134, .int (nI x)], [], M, κ) (fun o => ∃ v M1 κ1, o = (.inl v, M1, κ1) ∧ RT 108 (101, [.ref 134, .int ro, .int (nI x)], v.toList ++ [], M1, κ1) Q))
    (k2 : x < nb → ¬ ((M 146 x) = 0) → RT 108 (76, [.ref 134, .int ro, .int (nI (x + 1))], [], M, κ) Q)
    (k3 : ¬ (x < nb) → Q (.inl (some (.int ro)), (stM M 134 19 1), κ))
    : RT 108 (76, [.ref 134, .int ro, .int (nI x)], [], M, κ) Q := by
  refine w_load i_108_76 rfl rfl ?_
  refine w_load i_108_77 rfl rfl ?_
  refine w_getI (v := (nI nb)) i_108_78 hκ (⟨rfl, by decide⟩ : isOb 134 7) rfl (hmd) ?_
  refine w_if2n (x < nb) i_108_81 (cN_ge (a := x) (b := nb) (by omega) (by omega)) ?_ ?_
  · intro h1
    refine w_load i_108_84 rfl rfl ?_
    refine w_getR 146 i_108_85 hκ (⟨rfl, by decide⟩ : isOb 134 7) rfl rfl ?_
    refine w_load i_108_88 rfl rfl ?_
    refine w_zaldN (e := x) (v := (M 146 x)) i_108_89 hκ (⟨rfl, rfl, by decide⟩ : isZr 146 6) (by omega) (by decide) (rfl) ?_
    refine w_if0 ((M 146 x) = 0) i_108_90 cI0_eq ?_ ?_
    · intro h2
      refine w_load i_108_96 rfl rfl ?_
      refine w_load i_108_97 rfl rfl ?_
      exact w_callVI (i := _) i_108_98 ⟨by decide, by decide, by decide, rfl⟩ hκ (⟨rfl, by decide⟩ : isOb 134 7) (av := [.int (nI x)]) (rest := []) rfl rfl (Nat.le_of_ble_eq_true rfl) (k1 h1 h2)
    · intro h3
      refine w_goto i_108_93 ?_
      refine w_iincN (n := x) (l1 := [.ref 134, .int ro, .int (nI (x + 1))]) 1 i_108_128 rfl rfl ?_
      refine w_goto i_108_131 ?_
      exact (k2 h1 h3)
  · intro h4
    refine w_load i_108_134 rfl rfl ?_
    refine w_push i_108_135 rfl ?_
    refine w_putI i_108_136 hκ (⟨rfl, by decide⟩ : isOb 134 7) rfl (fun _ => rfl) ?_
    refine w_load i_108_139 rfl rfl ?_
    exact w_iret i_108_140 (.inl rfl) (k3 h4)
theorem i_108_101 : ins 108 101 = some (.iload_n 1, 102, 1, 0, 0, 0) := rfl
theorem i_108_102 : ins 108 102 = some (.aload_n 0, 103, 0, 0, 0, 0) := rfl
theorem i_108_103 : ins 108 103 = some (.getfield 114, 106, 7, 38, 0, 0) := rfl
theorem i_108_106 : ins 108 106 = some (.iload_n 2, 107, 2, 0, 0, 0) := rfl
theorem i_108_107 : ins 108 107 = some (.iaload, 108, 0, 0, 0, 0) := rfl
theorem i_108_108 : ins 108 108 = some (.ifCond .le 12, 111, 120, 0, 0, 0) := rfl
theorem i_108_111 : ins 108 111 = some (.aload_n 0, 112, 0, 0, 0, 0) := rfl
theorem i_108_112 : ins 108 112 = some (.getfield 114, 115, 7, 38, 0, 0) := rfl
theorem i_108_115 : ins 108 115 = some (.iload_n 2, 116, 2, 0, 0, 0) := rfl
theorem i_108_116 : ins 108 116 = some (.iaload, 117, 0, 0, 0, 0) := rfl
theorem i_108_117 : ins 108 117 = some (.goto 9, 120, 126, 0, 0, 0) := rfl
theorem i_108_120 : ins 108 120 = some (.aload_n 0, 121, 0, 0, 0, 0) := rfl
theorem i_108_121 : ins 108 121 = some (.getfield 108, 124, 7, 36, 0, 0) := rfl
theorem i_108_124 : ins 108 124 = some (.iload_n 2, 125, 2, 0, 0, 0) := rfl
theorem i_108_125 : ins 108 125 = some (.iaload, 126, 0, 0, 0, 0) := rfl
theorem i_108_126 : ins 108 126 = some (.iadd, 127, 0, 0, 0, 0) := rfl
theorem i_108_127 : ins 108 127 = some (.istore_n 1, 128, 1, 0, 0, 0) := rfl
theorem S108_101 {Q : Ou → Prop} {M : Mem} {κ : Kp} (hκ : Rd κ) {x : Nat} (hx : x < 6) {ro : Int32}
    (k1 : RT 108 (76, [.ref 134, .int (ro + (if 0 < (M 163 x) then (M 163 x) else (M 161 x))), .int (nI (x + 1))], [], M, κ) Q)
    : RT 108 (101, [.ref 134, .int ro, .int (nI x)], [], M, κ) Q := by
  refine w_load i_108_101 rfl rfl ?_
  refine w_load i_108_102 rfl rfl ?_
  refine w_getR 163 i_108_103 hκ (⟨rfl, by decide⟩ : isOb 134 7) rfl rfl ?_
  refine w_load i_108_106 rfl rfl ?_
  refine w_ialdN (e := x) (v := (M 163 x)) i_108_107 hκ (⟨rfl, rfl, by decide⟩ : isAr 163 6) (by omega) (by decide) (rfl) ?_
  have K1 : RT 108 (126, [.ref 134, .int ro, .int (nI x)], [.int (if 0 < (M 163 x) then (M 163 x) else (M 161 x)), .int ro], M, κ) Q := by
    refine w_bin (w := (ro + (if 0 < (M 163 x) then (M 163 x) else (M 161 x)))) i_108_126 rfl rfl ?_
    refine w_store (l1 := [.ref 134, .int (ro + (if 0 < (M 163 x) then (M 163 x) else (M 161 x))), .int (nI x)]) i_108_127 rfl (Nat.le_of_ble_eq_true rfl) rfl ?_
    refine w_iincN (n := x) (l1 := [.ref 134, .int (ro + (if 0 < (M 163 x) then (M 163 x) else (M 161 x))), .int (nI (x + 1))]) 1 i_108_128 rfl rfl ?_
    refine w_goto i_108_131 ?_
    exact (k1)
  refine w_if0n (0 < (M 163 x)) i_108_108 cI0_le ?_ ?_
  · intro h2
    refine w_load i_108_111 rfl rfl ?_
    refine w_getR 163 i_108_112 hκ (⟨rfl, by decide⟩ : isOb 134 7) rfl rfl ?_
    refine w_load i_108_115 rfl rfl ?_
    refine w_ialdN (e := x) (v := (M 163 x)) i_108_116 hκ (⟨rfl, rfl, by decide⟩ : isAr 163 6) (by omega) (by decide) (rfl) ?_
    refine w_goto i_108_117 ?_
    exact (by first | exact (K1) | (have K9 := K1; simp only [↓if_pos h2] at K9 ⊢; exact (K9)))
  · intro h3
    refine w_load i_108_120 rfl rfl ?_
    refine w_getR 161 i_108_121 hκ (⟨rfl, by decide⟩ : isOb 134 7) rfl rfl ?_
    refine w_load i_108_124 rfl rfl ?_
    refine w_ialdN (e := x) (v := (M 161 x)) i_108_125 hκ (⟨rfl, rfl, by decide⟩ : isAr 161 6) (by omega) (by decide) (rfl) ?_
    exact (by first | exact (K1) | (have K9 := K1; simp only [↓if_neg h3] at K9 ⊢; exact (K9)))
variable {Q : Ou → Prop} {M M0 : Mem} {κ : Kp}
/-- the program as it was given: how many blocks, how they end, v, t, f, how many operations, the operations -/
abbrev Gs : Type := Nat × (Nat → Int32) × (Nat → Int32) × (Nat → Nat) × (Nat → Nat) × (Nat → Nat) × (Nat → Op)
section GV
def gN (g : Gs) : Nat := g.1
def gE (g : Gs) : Nat → Int32 := g.2.1
def gV (g : Gs) : Nat → Int32 := g.2.2.1
def gT (g : Gs) : Nat → Nat := g.2.2.2.1
def gF (g : Gs) : Nat → Nat := g.2.2.2.2.1
def gC (g : Gs) : Nat → Nat := g.2.2.2.2.2.1
def gO (g : Gs) : Nat → Op := g.2.2.2.2.2.2
def GCl (M : Mem) (g : Gs) : Prop := M 0 6 = nI (gN g) ∧ ∀ z, z < gN g → M (5 + 18 * z) 0 = gE g z ∧ M (5 + 18 * z) 1 = gV g z ∧ M (5 + 18 * z) 2 = nI (gT g z) ∧ M (5 + 18 * z) 3 = nI (gF g z) ∧ M (5 + 18 * z) 4 = nI (gC g z) ∧ ∀ q, q < 6 → ∀ j, j < gC g z → M (5 + 18 * z + 1 + q) j = gO g z q j
def GMd (M : Mem) (g : Gs) : Prop := M 134 7 = nI (gN g) ∧ ∀ z, z < gN g → M 135 z = gE g z ∧ M 136 z = gV g z ∧ M 137 z = nI (gT g z) ∧ M 138 z = nI (gF g z) ∧ M 139 z = nI (gC g z) ∧ ∀ q, q < 6 → ∀ j, j < gC g z → M (140 + q) (10 * z + j) = gO g z q j
def GOk (g : Gs) : Prop := gN g ≤ 6 ∧ ∀ z, z < gN g → gT g z < 6 ∧ gF g z < 6 ∧ gC g z ≤ 10 ∧ Ook (gO g z) (gC g z) ∧ (0 ≤ (gE g z).toInt ∧ (gE g z).toInt ≤ 3) ∧ (0 ≤ (gV g z).toInt ∧ (gV g z).toInt ≤ 11)
def miss (g : Gs) : Bool := anyN (fun z => decide ((¬ gE g z = 0 ∧ gN g ≤ gT g z) ∨ (gE g z = 2 ∧ gN g ≤ gF g z))) (gN g)
def spoi (g : Gs) : Bool := anyN (fun z => decide (gE g z = 3) && anyN (fun k => decide (wr (gO g z) k = gV g z)) (gC g z)) (gN g)
def s0 (g : Gs) : Ss := (gE g, gT g, gC g, fun _ => false, gO g)
/-- the blocks behind the guards -/
def s1 (g : Gs) : Ss := fo (fun x s => gbS (gV g) (gF g) (gN g) s x) (s0 g) (gN g)
variable {g : Gs} {mp : Mp}
theorem SIv0 (h : GOk g) (hm : miss g = false) : SIv (gV g) (gF g) (gN g) (s0 g) := by
  refine ⟨fun z hz => ?_, fun z hz _ => ⟨fun _ => rfl, fun _ => rfl⟩, rfl⟩
  obtain ⟨h1, h2, h3, h4, h5, h6⟩ := h.2 z hz
  have hno : ¬ ((¬ gE g z = 0 ∧ gN g ≤ gT g z) ∨ (gE g z = 2 ∧ gN g ≤ gF g z)) := fun c => by
    have : miss g = true := anyN_of hz (decide_eq_true c)
    rw [hm] at this
    cases this
  refine ⟨fun c => ?_, fun c => ?_, h1, h2, h3, h4, h5, h6⟩
  · exact Nat.not_le.mp (fun c2 => hno (.inl ⟨c, c2⟩))
  · exact Nat.not_le.mp (fun c2 => hno (.inr ⟨c, c2⟩))
theorem SIv1 (h : GOk g) (hm : miss g = false) : SIv (gV g) (gF g) (gN g) (s1 g) := SIv_all h.1 (SIv0 h hm) (gN g) (Nat.le_refl _)
theorem c85 (hκ : Rd κ) (h : GOk g) (hG : GCl M g) : Run 85 (0, entL 85 [.ref 0], [], M, κ) (.inl (some (.int (bI (miss g)))), M, κ) := by
  refine RT_run (S85_0 hκ ?_)
  have h6 := h.1
  refine loopI (n := gN g) (fun x (_ : Unit) => RT 85 (2, [.ref 0, .int (nI x), UU], [], M, κ) _) (fun x _ => anyN (fun z => decide ((¬ gE g z = 0 ∧ gN g ≤ gT g z) ∨ (gE g z = 2 ∧ gN g ≤ gF g z))) x = false) (fun x u hx hI ih => ?_) (fun u hI => ?_) 0 () (Nat.zero_le _) rfl
  · refine S85_2 hκ (by omega) h6 hG.1 (fun _ => ?_) (fun c => absurd hx c)
    obtain ⟨b0, b1, b2, b3, b4, b5⟩ := hG.2 x hx
    obtain ⟨r1, r2, r3, r4, r5, r6⟩ := h.2 x hx
    have main : ∀ d y, y + d = 6 → gN g ≤ y → (∀ w, gN g ≤ w → w < y → ¬ comF (gE g x) (nI (gT g x)) (nI (gF g x)) (nI w) = true) → RT 85 (15, [.ref 0, .int (nI x), .int (nI y)], [], M, κ) (fun o => o = (.inl (some (.int (bI (miss g)))), M, κ)) := by
      intro d
      induction d with
      | zero =>
        intro y hy hny hall
        refine S85_15 hκ (by omega) (by omega) (fun c => absurd c (by omega)) (fun c => absurd c (by omega)) (fun _ => ih () ?_)
        rw [anyN, hI, Bool.false_or]
        refine decide_eq_false ?_
        rintro (⟨c1, c2⟩ | ⟨c1, c2⟩)
        · exact hall _ c2 (by omega) ((comF_iff (by omega) (by omega) (by omega)).mpr (.inl ⟨c1, rfl⟩))
        · exact hall _ c2 (by omega) ((comF_iff (by omega) (by omega) (by omega)).mpr (.inr ⟨c1, rfl⟩))
      | succ d ihd =>
        intro y hy hny hall
        refine S85_15 hκ (by omega) (by omega) (fun _ c => ?_) (fun _ c => ihd (y + 1) (by omega) (by omega) (fun w h1 h2 => ?_)) (fun c => absurd (by omega) c)
        · rw [b0, b2, b3, comF_iff (by omega) (by omega) (by omega)] at c
          have : miss g = true := anyN_of hx (decide_eq_true (by
            rcases c with c | c
            · exact .inl ⟨c.1, by omega⟩
            · exact .inr ⟨c.1, by omega⟩))
          rw [this]
          rfl
        · by_cases e : w = y
          · rw [e, ← b0, ← b2, ← b3]
            exact c
          · exact hall w h1 (by omega)
    exact main (6 - gN g) (gN g) (by omega) (Nat.le_refl _) (fun w h1 h2 => absurd h2 (by omega))
  · refine S85_2 hκ (Nat.le_refl _) h6 hG.1 (fun c => absurd c (Nat.lt_irrefl _)) (fun _ => ?_)
    have : miss g = false := hI
    rw [this]
    rfl
theorem c86 (hκ : Rd κ) (h : GOk g) (hG : GCl M g) : Run 86 (0, entL 86 [.ref 0], [], M, κ) (.inl (some (.int (bI (spoi g)))), M, κ) := by
  refine RT_run (S86_0 hκ ?_)
  have h6 := h.1
  refine loopI (n := gN g) (fun x (_ : Unit) => RT 86 (2, [.ref 0, .int (nI x)], [], M, κ) _) (fun x _ => anyN (fun z => decide (gE g z = 3) && anyN (fun k => decide (wr (gO g z) k = gV g z)) (gC g z)) x = false) (fun x u hx hI ih => ?_) (fun u hI => ?_) 0 () (Nat.zero_le _) rfl
  · obtain ⟨b0, b1, b2, b3, b4, b5⟩ := hG.2 x hx
    obtain ⟨r1, r2, r3, r4, r5, r6⟩ := h.2 x hx
    refine S86_2 (r_38 := anyN (fun k => decide (wr (gO g x) k = gV g x)) (gC g x)) hκ (by omega) h6 hG.1 (fun _ _ => by rw [b1]; exact c8 hκ (bl_g (by omega)) r3 b4 b5) (fun _ c => ih () ?_) (fun _ c1 c2 => ?_) (fun c => absurd hx c)
    · rw [anyN, hI, Bool.false_or]
      rw [b0] at c
      rcases c with c | c
      · rw [Bool.eq_false_iff.mpr c.2, Bool.and_false]
      · rw [decide_eq_false c, Bool.false_and]
    · rw [b0] at c1
      have : spoi g = true := anyN_of hx (by rw [decide_eq_true c1, c2]; rfl)
      rw [this]
      rfl
  · refine S86_2 (r_38 := false) hκ (Nat.le_refl _) h6 hG.1 (fun c => absurd c (Nat.lt_irrefl _)) (fun c => absurd c (Nat.lt_irrefl _)) (fun c => absurd c (Nat.lt_irrefl _)) (fun _ => ?_)
    have : spoi g = false := hI
    rw [this]
    rfl
theorem c106 (hκ : Rd κ) (h : GOk g) (hG : GMd M g) : Run 106 (0, entL 106 [.ref 134], [], M, κ) (.inl (some (.int (bI (miss g)))), M, κ) := by
  refine RT_run (S106_0 hκ ?_)
  have h6 := h.1
  have prem : ∀ x, (x < gN g → gT g x < 6 ∧ gF g x < 6) ∧ (x < gN g → M 135 x = gE g x) ∧ (x < gN g → M 137 x = nI (gT g x)) ∧ (x < gN g → M 138 x = nI (gF g x)) := fun x => ⟨fun hx => ⟨(h.2 x hx).1, (h.2 x hx).2.1⟩, fun hx => (hG.2 x hx).1, fun hx => (hG.2 x hx).2.2.1, fun hx => (hG.2 x hx).2.2.2.1⟩
  refine loopI (n := gN g) (fun x lo => RT 106 (4, [.ref 134, .int (bI lo), .int (nI x)], [], M, κ) _) (fun x lo => lo = anyN (fun z => decide ((¬ gE g z = 0 ∧ gN g ≤ gT g z) ∨ (gE g z = 2 ∧ gN g ≤ gF g z))) x) (fun x lo hx hI ih => ?_) (fun lo hI => ?_) 0 false (Nat.zero_le _) rfl
  · obtain ⟨p1, p2, p3, p4⟩ := prem x
    refine S106_4 (e := gE g) (t := gT g) (f := gF g) hκ (by omega) h6 p1 hG.1 p2 p3 p4 (fun _ => ih _ ?_) (fun c => absurd hx c)
    rw [hI, anyN]
    generalize anyN _ x = a
    have hg : goes (gE g x) = true ↔ ¬ gE g x = 0 := by
      unfold goes
      by_cases q : gE g x = 0 <;> simp [q]
    have hf : forks (gE g x) = true ↔ gE g x = 2 := by
      unfold forks
      by_cases q : gE g x = 2 <;> simp [q]
    by_cases q1 : gE g x = 0
    · have q2 : ¬ gE g x = 2 := by rw [q1]; decide
      rw [if_neg (fun c => hg.mp c q1), if_neg (fun c => q2 (hf.mp c)), decide_eq_false (by rintro (c | c); exact c.1 q1; exact q2 c.1)]
      cases a <;> rfl
    · rw [if_pos (hg.mpr q1)]
      by_cases q2 : gE g x = 2
      · rw [if_pos (hf.mpr q2)]
        by_cases q3 : gT g x < gN g
        · rw [if_pos q3]
          by_cases q4 : gF g x < gN g
          · rw [if_pos q4, decide_eq_false (by rintro (c | c) <;> omega)]
            cases a <;> rfl
          · rw [if_neg q4, decide_eq_true (.inr ⟨q2, by omega⟩)]
            cases a <;> rfl
        · rw [if_neg q3, decide_eq_true (.inl ⟨q1, by omega⟩)]
          cases a <;> rfl
      · rw [if_neg (fun c => q2 (hf.mp c))]
        by_cases q3 : gT g x < gN g
        · rw [if_pos q3, decide_eq_false (by
            rintro (c | c)
            · omega
            · exact q2 c.1)]
          cases a <;> rfl
        · rw [if_neg q3, decide_eq_true (.inl ⟨q1, by omega⟩)]
          cases a <;> rfl
  · obtain ⟨p1, p2, p3, p4⟩ := prem (gN g)
    refine S106_4 (e := gE g) (t := gT g) (f := gF g) hκ (Nat.le_refl _) h6 p1 hG.1 p2 p3 p4 (fun c => absurd c (Nat.lt_irrefl _)) (fun _ => ?_)
    rw [hI]
    rfl
theorem c107 (hκ : Rd κ) (h : GOk g) (hG : GMd M g) : Run 107 (0, entL 107 [.ref 134], [], M, κ) (.inl (some (.int (bI (spoi g)))), M, κ) := by
  refine RT_run (S107_0 hκ ?_)
  have h6 := h.1
  refine loopI (n := gN g) (fun x sp => RT 107 (4, [.ref 134, .int (bI sp), .int (nI x), UU], [], M, κ) _) (fun x sp => sp = anyN (fun z => decide (gE g z = 3) && anyN (fun k => decide (wr (gO g z) k = gV g z)) (gC g z)) x) (fun x sp hx hI ih => ?_) (fun sp hI => ?_) 0 false (Nat.zero_le _) rfl
  · obtain ⟨b0, b1, b2, b3, b4, b5⟩ := hG.2 x hx
    obtain ⟨r1, r2, r3, r4, r5, r6⟩ := h.2 x hx
    have hv : ¬ gV g x = -1 := fun z => by rw [z, cm1] at r6; omega
    refine S107_4 hκ (by omega) h6 hG.1 (fun _ => ?_) (fun c => absurd hx c)
    refine loopI (n := gC g x) (fun k sp => RT 107 (17, [.ref 134, .int (bI sp), .int (nI x), .int (nI ((10 * x) + k))], [], M, κ) _) (fun k sp' => sp' = (sp || (decide (gE g x = 3) && anyN (fun k => decide (wr (gO g x) k = gV g x)) k))) (fun k sp' hk hJ ih2 => ?_) (fun sp' hJ => ?_) 0 sp (Nat.zero_le _) (by rw [anyN]; simp)
    · refine S107_17 hκ (by omega) (by omega) r3 b4 b0 b1 b5 (fun _ => ih2 _ ?_) (fun c => absurd (by omega) c)
      rw [hJ, anyN]
      have hw := ws_wr (c := gO g x 0 k) (d := gO g x 1 k) hv
      have hw2 : (if isW (gO g x 0 k) = true then (if gO g x 1 k = gV g x then true else false) else false) = decide (wr (gO g x) k = gV g x) := by
        have e1 : wr (gO g x) k = wrF (gO g x 0 k) (gO g x 1 k) := rfl
        rw [e1]
        unfold wsM at hw
        rw [decide_eq_true_iff] at hw
        unfold isW
        by_cases q1 : 7 < gO g x 0 k
        · rw [if_pos q1, if_neg Bool.false_ne_true, decide_eq_false (fun c => (hw.mpr c).1 q1)]
        · rw [if_neg q1, if_pos rfl]
          by_cases q2 : gO g x 1 k = gV g x
          · rw [if_pos q2, decide_eq_true (hw.mp ⟨q1, q2⟩)]
          · rw [if_neg q2, decide_eq_false (fun c => q2 (hw.mpr c).2)]
      rw [hw2]
      generalize decide (wr (gO g x) k = gV g x) = w1
      generalize anyN _ k = a1
      by_cases q : gE g x = 3 <;> cases sp <;> cases w1 <;> cases a1 <;> simp [q]
    · refine S107_17 hκ (by omega) (Nat.le_refl _) r3 b4 b0 b1 b5 (fun c => absurd c (Nat.lt_irrefl _)) (fun _ => ih _ ?_)
      rw [hJ, hI, anyN]
  · refine S107_4 hκ (Nat.le_refl _) h6 hG.1 (fun c => absurd c (Nat.lt_irrefl _)) (fun _ => ?_)
    rw [hI]
    rfl
/-- what compiling leaves alone in the class -/
def frC (M0 M : Mem) : Prop := ∀ o j, ¬ (o = 0 ∧ j = 7) → ¬ ((113 ≤ o ∧ o ≤ 121) ∨ (123 ≤ o ∧ o ≤ 125)) → ¬ (∃ z, z < 6 ∧ 12 + 18 * z ≤ o ∧ o ≤ 22 + 18 * z) → M o j = M0 o j
theorem f71 (hκ : Rd κ) (h : GOk g) (hG : GCl M0 g) (hm : MpOk mp) (hC : CMp M0 mp)
    (K1 : gN g = 0 → Q (.inr 1, M0, (κ.1, κ.2.1, κ.2.2.1, kN κ, kC κ + 1, kU κ + 6)))
    (K2 : ¬ gN g = 0 → miss g = true → Q (.inr 2, M0, (κ.1, κ.2.1, κ.2.2.1, kN κ, kC κ + 1, kU κ + 6)))
    (K3 : ¬ gN g = 0 → miss g = false → spoi g = true → Q (.inr 0, M0, (κ.1, κ.2.1, κ.2.2.1, kN κ, kC κ + 1, kU κ + 6)))
    (K4 : ¬ gN g = 0 → miss g = false → spoi g = false → ∀ M, frC M0 M → M 0 7 = 1 → BRl (gV g) (gF g) (gN g) M (s1 g) → (∀ x, x < gN g → (s1 g).2.2.2.1 x = false → PC M mp ((s1 g).1 x) ((s1 g).2.2.1 x) ((s1 g).2.2.2.2 x) (19 + 18 * x)) → Q (.inl (some (.int (rowsC M (s1 g) (gN g)))), M, κ)) : RT 71 (0, entL 71 [.ref 0], [], M0, κ) Q := by
  have h6 := h.1
  refine S71_0 (r_17 := miss g) (r_32 := spoi g) hκ h6 hG.1 (fun _ => c85 hκ h hG) (fun _ _ => c86 hκ h hG) (fun c => K1 (by omega)) (fun c1 c2 => K2 (by omega) c2) (fun c1 c2 c3 => K3 (by omega) (Bool.eq_false_iff.mpr c2) c3) (fun c1 c2 c3 => ?_)
  have K4 := K4 (by omega) (Bool.eq_false_iff.mpr c2) (Bool.eq_false_iff.mpr c3)
  have hS0 := SIv0 h (Bool.eq_false_iff.mpr c2)
  refine loopI (n := gN g) (fun x M => RT 71 (48, [.ref 0, .int (nI x)], [], M, κ) Q) (fun x M => frB M0 M ∧ BRl (gV g) (gF g) x M (s0 g)) (fun x M hx hI ih => ?_) (fun M hI => ?_) 0 M0 (Nat.zero_le _) ⟨fun _ _ _ => rfl, fun z hz => absurd hz (Nat.not_lt_zero z)⟩
  · obtain ⟨a1, a2⟩ := hI
    have ng : ∀ z, z < 6 → ∀ i, i ≤ 6 → ¬ (∃ w, w < 6 ∧ 12 + 18 * w ≤ 5 + 18 * z + i ∧ 5 + 18 * z + i ≤ 12 + 18 * w + 6) := fun z hz i hi => by
      rintro ⟨w, w1, w2, w3⟩
      omega
    have fg : ∀ i, i ≤ 6 → ∀ j, M (5 + 18 * x + i) j = M0 (5 + 18 * x + i) j := fun i hi j => a1 _ j (ng x (by omega) i hi)
    have h06 : M 0 6 = nI (gN g) := (a1 0 6 (by rintro ⟨w, w1, w2, w3⟩; omega)).trans hG.1
    obtain ⟨b0, b1, b2, b3, b4, b5⟩ := hG.2 x hx
    obtain ⟨r1, r2, r3, r4, r5, r6⟩ := h.2 x hx
    refine S71_48 hκ (by omega) h6 h06 (fun _ => ?_) (fun c => absurd hx c)
    refine f3 (n2 := gC g x) hκ (bl_b (by omega)) (bl_g (by omega)) (by omega) r3 ((fg 0 (by omega) 4).trans b4) (fun M1 k1 k2 k3 k4 k5 k6 k7 k8 => ⟨none, M1, κ, rfl, ?_⟩)
    refine S71_71 hκ (by omega) (ih M1 ⟨fun o j hno => (k1 o j (fun c => hno ⟨x, by omega, by omega, by omega⟩)).trans (a1 o j hno), fun z hz => ?_⟩)
    by_cases ez : z = x
    · rw [ez]
      refine ⟨k2.trans ((fg 0 (by omega) 0).trans b0), k3.trans ((fg 0 (by omega) 1).trans b1), k4.trans ((fg 0 (by omega) 2).trans b2), k5.trans ((fg 0 (by omega) 3).trans b3), k6, k7, fun q hq j hj => ?_⟩
      have hj' : j < gC g x := hj
      rw [k8 q hq j hj']
      have := fg (1 + q) (by omega) j
      rw [← Nat.add_assoc] at this
      exact this.trans (b5 q hq j hj')
    · obtain ⟨e0, e1, e2, e3, e4, e5, e6⟩ := a2 z (by omega)
      have kz : ∀ i, i ≤ 6 → ∀ j, M1 (12 + 18 * z + i) j = M (12 + 18 * z + i) j := fun i hi j => k1 _ j (by omega)
      refine ⟨(kz 0 (by omega) 0).trans e0, (kz 0 (by omega) 1).trans e1, (kz 0 (by omega) 2).trans e2, (kz 0 (by omega) 3).trans e3, (kz 0 (by omega) 4).trans e4, (kz 0 (by omega) 5).trans e5, fun q hq j hj => ?_⟩
      have := kz (1 + q) (by omega) j
      rw [← Nat.add_assoc] at this
      exact this.trans (e6 q hq j hj)
  · obtain ⟨a1, a2⟩ := hI
    refine S71_48 hκ (Nat.le_refl _) h6 ((a1 0 6 (by rintro ⟨w, w1, w2, w3⟩; omega)).trans hG.1) (fun c => absurd c (Nat.lt_irrefl _)) (fun _ => ?_)
    refine f87 hκ h6 a2 hS0 (fun M1 k1 k2 => ⟨none, M1, κ, rfl, ?_⟩)
    refine w_weak (lle_s (lle_u lle_n)) (S71_88 hκ ?_)
    have f1 : ∀ o j, (o < 12 ∨ ∃ z, z < 6 ∧ 5 + 18 * z ≤ o ∧ o ≤ 11 + 18 * z) → M1 o j = M0 o j := fun o j ho => by
      have hno : ¬ (∃ w, w < 6 ∧ 12 + 18 * w ≤ o ∧ o ≤ 12 + 18 * w + 6) := by
        rintro ⟨w, w1, w2, w3⟩
        rcases ho with ho | ⟨z, z1, z2, z3⟩ <;> omega
      exact (k1 o j hno).trans (a1 o j hno)
    have hB1 : BRl (gV g) (gF g) (gN g) (stM M1 0 7 1) (s1 g) := fun z hz => by
      obtain ⟨e0, e1, e2, e3, e4, e5, e6⟩ := k2 z hz
      exact ⟨(stM_o (by omega)).trans e0, (stM_o (by omega)).trans e1, (stM_o (by omega)).trans e2, (stM_o (by omega)).trans e3, (stM_o (by omega)).trans e4, (stM_o (by omega)).trans e5, fun q hq j hj => (stM_o (by omega)).trans (e6 q hq j hj)⟩
    have hC1 : CMp (stM M1 0 7 1) mp := by
      obtain ⟨m0, m1, m2, m3, m4, m5⟩ := hC
      have fm : ∀ j, stM M1 0 7 1 1 j = M0 1 j := fun j => (stM_o (by decide)).trans (f1 1 j (.inl (by decide)))
      exact ⟨(fm _).trans m0, (fm _).trans m1, (fm _).trans m2, (fm _).trans m3, (fm _).trans m4, (fm _).trans m5⟩
    refine f90 hκ h6 ((stM_j (by decide)).trans ((f1 0 6 (.inl (by decide))).trans hG.1)) hB1 (SIv1 h (Bool.eq_false_iff.mpr c2)) hm hC1 (fun M2 j1 j2 => ⟨_, M2, κ, rfl, ?_⟩)
    have nq : ∀ o, (o < 19 ∨ o = 122 ∨ 125 < o ∨ ∃ z, z < 6 ∧ 12 + 18 * z ≤ o ∧ o ≤ 18 + 18 * z) → ¬ ((113 ≤ o ∧ o ≤ 121) ∨ (123 ≤ o ∧ o ≤ 125) ∨ ∃ x, x < 6 ∧ 19 + 18 * x ≤ o ∧ o ≤ 22 + 18 * x) := fun o h c => by
      rcases c with c | c | ⟨y, c1, c2, c3⟩ <;> rcases h with h | h | h | ⟨z, d1, d2, d3⟩ <;> omega
    refine w_weak (lle_u (lle_u lle_n)) (S71_97 hκ (K4 M2 (fun o j n1 n2 n3 => ?_) ((j1 _ _ (nq 0 (.inl (by decide)))).trans stM_s) (fun z hz => ?_) j2))
    · rw [j1 o j (fun c => by
        rcases c with c | c | ⟨z, c1, c2, c3⟩
        · exact n2 (.inl c)
        · exact n2 (.inr c)
        · exact n3 ⟨z, c1, by omega, by omega⟩), stM_n n1]
      have hno : ¬ (∃ w, w < 6 ∧ 12 + 18 * w ≤ o ∧ o ≤ 12 + 18 * w + 6) := fun ⟨w, w1, w2, w3⟩ => n3 ⟨w, w1, w2, by omega⟩
      exact (k1 o j hno).trans (a1 o j hno)
    · obtain ⟨e0, e1, e2, e3, e4, e5, e6⟩ := hB1 z hz
      have kz : ∀ i, i ≤ 6 → ∀ j, M2 (12 + 18 * z + i) j = stM M1 0 7 1 (12 + 18 * z + i) j := fun i hi j => j1 _ j (nq _ (.inr (.inr (.inr ⟨z, by omega, by omega, by omega⟩))))
      refine ⟨(kz 0 (by omega) 0).trans e0, (kz 0 (by omega) 1).trans e1, (kz 0 (by omega) 2).trans e2, (kz 0 (by omega) 3).trans e3, (kz 0 (by omega) 4).trans e4, (kz 0 (by omega) 5).trans e5, fun q hq j hj => ?_⟩
      have := kz (1 + q) (by omega) j
      rw [← Nat.add_assoc] at this
      exact this.trans (e6 q hq j hj)
/-- a plan of the model is that of the class -/
def PM (M : Mem) (n x : Nat) : Prop := (∀ k, k < n → M 158 (10 * x + k) = M (19 + 18 * x + 1) k ∧ M 159 (10 * x + k) = M (19 + 18 * x + 2) k ∧ M 160 (10 * x + k) = M (19 + 18 * x + 3) k) ∧ M 161 x = M (19 + 18 * x) 0 ∧ M 162 x = M (19 + 18 * x) 1 ∧ M 163 x = M (19 + 18 * x) 2 ∧ M 164 x = M (19 + 18 * x) 3
def frN (M0 M : Mem) : Prop := ∀ o j, ¬ (o = 134 ∧ (j = 0 ∨ j = 19 ∨ j = 20)) → ¬ (146 ≤ o ∧ o ≤ 171) → M o j = M0 o j
theorem f108 (hκ : Rd κ) (h : GOk g) (hG : GMd M0 g) (hm : MpOk mp) (hC : MMp M0 mp) (hP : ¬ gN g = 0 → miss g = false → spoi g = false → ∀ x, x < gN g → (s1 g).2.2.2.1 x = false → PC M0 mp ((s1 g).1 x) ((s1 g).2.2.1 x) ((s1 g).2.2.2.2 x) (19 + 18 * x))
    (K1 : gN g = 0 → Q (.inl (some (.int 0)), stM M0 134 0 1, κ))
    (K2 : ¬ gN g = 0 → miss g = true → Q (.inl (some (.int 0)), stM M0 134 0 2, κ))
    (K3 : ¬ gN g = 0 → miss g = false → spoi g = true → Q (.inl (some (.int 0)), stM M0 134 0 3, κ))
    (K4 : ¬ gN g = 0 → miss g = false → spoi g = false → ∀ M, frN M0 M → M 134 0 = 0 → M 134 19 = 1 → M 134 20 = nI (gN g) → MRl (gV g) (gF g) (gN g) M (s1 g) → (∀ x, x < gN g → (s1 g).2.2.2.1 x = false → PM M ((s1 g).2.2.1 x) x) → Q (.inl (some (.int (rowsC M0 (s1 g) (gN g)))), M, κ)) : RT 108 (0, entL 108 [.ref 134], [], M0, κ) Q := by
  have h6 := h.1
  refine S108_0 (r_13 := miss g) (r_24 := spoi g) hκ h6 hG.1 (fun _ => c106 hκ h hG) (fun _ _ => c107 hκ h hG) (fun c => ?_) (fun c => ?_)
  · by_cases q0 : gN g = 0
    · rw [if_pos q0] at c ⊢
      exact K1 q0
    · rw [if_neg q0] at c ⊢
      cases q1 : miss g with
      | true =>
        rw [q1, if_pos rfl] at c
        rw [if_pos rfl]
        exact K2 q0 q1
      | false =>
        rw [q1, if_neg Bool.false_ne_true] at c
        rw [if_neg Bool.false_ne_true]
        cases q2 : spoi g with
        | true =>
          rw [if_pos rfl]
          exact K3 q0 q1 q2
        | false =>
          rw [q2, if_neg Bool.false_ne_true] at c
          exact absurd c (by decide)
  · by_cases q0 : gN g = 0
    · rw [if_pos q0] at c
      exact absurd (by decide) c
    · rw [if_neg q0] at c ⊢
      cases q1 : miss g with
      | true =>
        rw [q1, if_pos rfl] at c
        exact absurd (by decide) c
      | false =>
        rw [q1, if_neg Bool.false_ne_true] at c
        rw [if_neg Bool.false_ne_true]
        cases q2 : spoi g with
        | true =>
          rw [q2, if_pos rfl] at c
          exact absurd (by decide) c
        | false =>
          rw [if_neg Bool.false_ne_true]
          have K4 := K4 q0 q1 q2
          have hP := hP q0 q1 q2
          have hS0 := SIv0 h q1
          have hS1 := SIv1 h q1
          refine f109 (nb := gN g) (cnt := gC g) hκ h6 ((stM_j (by decide)).trans hG.1) (fun x hx => ⟨(stM_o (by decide)).trans (hG.2 x hx).2.2.2.2.1, (h.2 x hx).2.2.1⟩) (fun M1 a1 a2 a3 => ⟨none, M1, κ, rfl, ?_⟩)
          refine S108_51 hκ ?_
          have f1 : frN M0 M1 := fun o j n1 n2 => (a1 o j (fun c => n1 ⟨c.1, .inr (.inr c.2)⟩) (fun c => n2 (by omega))).trans (stM_n (fun c => n1 ⟨c.1, .inl c.2⟩))
          have h00 : M1 134 0 = 0 := (a1 134 0 (by omega) (by omega)).trans stM_s
          have hB0 : MRl (gV g) (gF g) (gN g) M1 (s0 g) := fun z hz => by
            obtain ⟨b0, b1, b2, b3, b4, b5, b6⟩ := a3 z hz
            obtain ⟨d0, d1, d2, d3, d4, d5⟩ := hG.2 z hz
            refine ⟨b1.trans ((stM_o (by decide)).trans d0), b2.trans ((stM_o (by decide)).trans d1), b3.trans ((stM_o (by decide)).trans d2), b4.trans ((stM_o (by decide)).trans d3), b5, b0, fun q hq j hj => ?_⟩
            have hj' : j < gC g z := hj
            rw [b6 q hq j hj', stM_o (by omega)]
            exact d5 q hq j hj'
          -- guards
          refine loopI (n := gN g) (fun x M => RT 108 (53, [.ref 134, .int (nI x), UU], [], M, κ) Q) (fun x M => frN M0 M ∧ M 134 0 = 0 ∧ M 134 20 = nI (gN g) ∧ MRl (gV g) (gF g) (gN g) M (fo (fun x s => gbS (gV g) (gF g) (gN g) s x) (s0 g) x)) (fun x M hx hI ih => ?_) (fun M hI => ?_) 0 M1 (Nat.zero_le _) ⟨f1, h00, a2, hB0⟩
          · obtain ⟨u1, u2, u3, u4⟩ := hI
            have hS := SIv_all h6 hS0 x (by omega)
            refine S108_53 hκ (by omega) h6 u3 (fun _ => ?_) (fun c => absurd hx c)
            refine f112 hκ h6 u3 u4 hS hx (fun M2 k1 k2 => ⟨none, M2, κ, rfl, ?_⟩)
            refine S108_66 hκ (by omega) (ih M2 ⟨fun o j n1 n2 => (k1 o j (by omega)).trans (u1 o j n1 n2), (k1 _ _ (by omega)).trans u2, (k1 _ _ (by omega)).trans u3, k2⟩)
          · obtain ⟨u1, u2, u3, u4⟩ := hI
            have u4 : MRl (gV g) (gF g) (gN g) M (s1 g) := u4
            refine S108_53 hκ (Nat.le_refl _) h6 u3 (fun c => absurd c (Nat.lt_irrefl _)) (fun _ => ?_)
            -- plans
            refine loopI (n := gN g) (fun x (a : Mem × Int32) => RT 108 (76, [.ref 134, .int a.2, .int (nI x)], [], a.1, κ) Q) (fun x a => (frN M0 a.1 ∧ a.1 134 0 = 0 ∧ a.1 134 20 = nI (gN g) ∧ MRl (gV g) (gF g) (gN g) a.1 (s1 g)) ∧ (∀ y, y < x → (s1 g).2.2.2.1 y = false → PM a.1 ((s1 g).2.2.1 y) y) ∧ a.2 = rowsC M0 (s1 g) x) (fun x a hx hI ih => ?_) (fun a hI => ?_) 0 (M, 0) (Nat.zero_le _) ⟨⟨u1, u2, u3, u4⟩, fun y hy => absurd hy (Nat.not_lt_zero y), rfl⟩
            · obtain ⟨M3, acc⟩ := a
              obtain ⟨⟨v1, v2, v3, v4⟩, v5, v6⟩ := hI
              dsimp only at v1 v2 v3 v4 v5 v6 ⊢
              have bX := v4 x hx
              have iX := hS1.1 x hx
              refine S108_76 hκ (by omega) h6 v3 (fun _ hg => ?_) (fun _ hg => ih (M3, acc) ⟨⟨v1, v2, v3, v4⟩, fun y hy hgy => ?_, ?_⟩) (fun c => absurd hx c)
              · rw [bX.2.2.2.2.2.1] at hg
                have hg0 : (s1 g).2.2.2.1 x = false := Bool.eq_false_iff.mpr (bI_z.mp hg)
                obtain ⟨c, t0, len, p1, p2, p3, p4, p5, p6, p7, p8, p9⟩ := hP x hx hg0
                have fm : ∀ j, ¬ (j = 0 ∨ j = 19 ∨ j = 20) → M3 134 j = M0 134 j := fun j hj => v1 134 j (fun c => hj c.2) (by omega)
                have fp : ∀ o j, 19 + 18 * x ≤ o ∧ o ≤ 22 + 18 * x → M3 o j = M0 o j := fun o j ho => v1 o j (by omega) (by omega)
                obtain ⟨m0, m1, m2, m3, m4, m5⟩ := hC
                refine f131 (L := LtO mp ((s1 g).2.2.2.2 x)) (U := mp.1) (len := len) hκ (by omega) iX.2.2.2.2.1 p8 bX.2.2.2.2.1 bX.1 ((fm 1 (by omega)).trans m0) ((fm 2 (by omega)).trans m1) (MpU hm) ((fm 3 (by omega)).trans m2) ((fm 4 (by omega)).trans m3) ((fm 5 (by omega)).trans m4) ((fm 6 (by omega)).trans m5) bX.2.2.2.2.2.2 iX.2.2.2.2.2.1 (LtO_ok hm _ _) (fun k hk => rfl) p1 p3 p5 p7 p9 (fun M4 k1 k2 k3 k4 k5 k6 k7 k8 => ⟨none, M4, κ, rfl, ?_⟩)
                have f4 : ∀ o j, o < 158 → M4 o j = M3 o j := fun o j ho => k1 o j (by omega)
                refine S108_101 hκ (by omega) (ih (M4, _) ⟨⟨fun o j n1 n2 => (k1 o j (by omega)).trans (v1 o j n1 n2), (f4 _ _ (by omega)).trans v2, (f4 _ _ (by omega)).trans v3, fun z hz => ?_⟩, fun y hy hgy => ?_, ?_⟩)
                · obtain ⟨e0, e1, e2, e3, e4, e5, e6⟩ := v4 z hz
                  exact ⟨(f4 _ _ (by omega)).trans e0, (f4 _ _ (by omega)).trans e1, (f4 _ _ (by omega)).trans e2, (f4 _ _ (by omega)).trans e3, (f4 _ _ (by omega)).trans e4, (f4 _ _ (by omega)).trans e5, fun q hq j hj => (f4 _ _ (by omega)).trans (e6 q hq j hj)⟩
                · show PM M4 ((s1 g).2.2.1 y) y
                  have f5 : ∀ o j, 19 + 18 * y ≤ o ∧ o ≤ 22 + 18 * y → M4 o j = M3 o j := fun o j ho => f4 o j (by omega)
                  by_cases ey : y = x
                  · rw [ey]
                    have f6 : ∀ o j, 19 + 18 * x ≤ o ∧ o ≤ 22 + 18 * x → M4 o j = M0 o j := fun o j ho => (f4 o j (by omega)).trans (fp o j ho)
                    refine ⟨fun k hk => ⟨(k2 k hk).trans (f6 _ _ (by omega)).symm, ?_, (k8 k hk).trans (f6 _ _ (by omega)).symm⟩, ?_, k5.trans (f6 _ _ (by omega)).symm, k6.trans (f6 _ _ (by omega)).symm, k7.trans (f6 _ _ (by omega)).symm⟩
                    · rw [k3 k hk, f6 _ _ (by omega), p2 k hk]
                    · rw [k4, f6 _ _ (by omega), p6]
                  · obtain ⟨w1, w2, w3, w4, w5⟩ := v5 y (by omega) hgy
                    have hyc := (hS1.1 y (by omega)).2.2.2.2.1
                    refine ⟨fun k hk => ?_, ?_, ?_, ?_, ?_⟩
                    · obtain ⟨z1, z2, z3⟩ := w1 k hk
                      rw [k1 158 _ (by omega), k1 159 _ (by omega), k1 160 _ (by omega), f5 _ _ (by omega), f5 _ _ (by omega), f5 _ _ (by omega)]
                      exact ⟨z1, z2, z3⟩
                    · rw [k1 161 _ (by omega), f5 _ _ (by omega)]; exact w2
                    · rw [k1 162 _ (by omega), f5 _ _ (by omega)]; exact w3
                    · rw [k1 163 _ (by omega), f5 _ _ (by omega)]; exact w4
                    · rw [k1 164 _ (by omega), f5 _ _ (by omega)]; exact w5
                · show acc + _ = rowsC M0 (s1 g) (x + 1)
                  rw [rowsC, fo_suc, hg0, if_neg Bool.false_ne_true, v6, k6, k4, ← p6]
                  rfl
              · by_cases ey : y = x
                · rw [bX.2.2.2.2.2.1, ey.symm, hgy] at hg
                  exact absurd rfl hg
                · exact v5 y (by omega) hgy
              · rw [v6]
                show _ = rowsC M0 (s1 g) (x + 1)
                have hg1 : (s1 g).2.2.2.1 x = true := by
                  rw [bX.2.2.2.2.2.1] at hg
                  cases q : (s1 g).2.2.2.1 x with
                  | true => rfl
                  | false => rw [q] at hg; exact absurd rfl hg
                rw [rowsC, rowsC, fo_suc, if_pos hg1]
            · obtain ⟨M3, acc⟩ := a
              obtain ⟨⟨v1, v2, v3, v4⟩, v5, v6⟩ := hI
              dsimp only at v1 v2 v3 v4 v5 v6 ⊢
              refine S108_76 hκ (Nat.le_refl _) h6 v3 (fun c => absurd c (Nat.lt_irrefl _)) (fun c => absurd c (Nat.lt_irrefl _)) (fun _ => ?_)
              rw [v6]
              refine K4 _ (fun o j n1 n2 => (stM_n (fun c => n1 ⟨c.1, .inr (.inl c.2)⟩)).trans (v1 o j n1 n2)) ((stM_j (by decide)).trans v2) stM_s ((stM_j (by decide)).trans v3) (fun z hz => ?_) (fun x hx hgx => ?_)
              · obtain ⟨e0, e1, e2, e3, e4, e5, e6⟩ := v4 z hz
                exact ⟨(stM_o (by decide)).trans e0, (stM_o (by decide)).trans e1, (stM_o (by decide)).trans e2, (stM_o (by decide)).trans e3, (stM_o (by decide)).trans e4, (stM_o (by decide)).trans e5, fun q hq j hj => (stM_o (by omega)).trans (e6 q hq j hj)⟩
              · obtain ⟨w1, w2, w3, w4, w5⟩ := v5 x hx hgx
                refine ⟨fun k hk => ?_, ?_, ?_, ?_, ?_⟩
                · rw [stM_o (by omega), stM_o (by omega), stM_o (by omega), stM_o (by omega), stM_o (by omega), stM_o (by omega)]
                  exact w1 k hk
                · rw [stM_o (by omega), stM_o (by omega)]; exact w2
                · rw [stM_o (by omega), stM_o (by omega)]; exact w3
                · rw [stM_o (by omega), stM_o (by omega)]; exact w4
                · rw [stM_o (by omega), stM_o (by omega)]; exact w5
end GV
end P_46_comp
