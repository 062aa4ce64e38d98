/-! the invariant between class and model; machine, block, operation, erase, poke, peek -/
section P_53_inv
theorem i_94_0 : ins 94 0 = some (.aload_n 0, 1, 0, 0, 0, 0) := rfl
theorem i_94_1 : ins 94 1 = some (.getfield 159, 4, 7, 0, 0, 0) := rfl
theorem i_94_4 : ins 94 4 = some (.ireturn, 5, 0, 0, 0, 0) := rfl
theorem S94_0 {Q : Ou → Prop} {M : Mem} {κ : Kp} (hκ : Rd κ) {th : Int32} (hth : M 134 0 = th) 
    (k1 : Q (.inl (some (.int th)), M, κ))
    : RT 94 (0, [.ref 134], [], M, κ) Q := by
  refine w_load i_94_0 rfl rfl ?_
  refine w_getI (v := th) i_94_1 hκ (⟨rfl, by decide⟩ : isOb 134 7) rfl (hth) ?_
  exact w_iret i_94_4 (.inl rfl) (k1)
theorem i_97_0 : ins 97 0 = some (.aload_n 0, 1, 0, 0, 0, 0) := rfl
theorem i_97_1 : ins 97 1 = some (.iload_n 1, 2, 1, 0, 0, 0) := rfl
theorem i_97_2 : ins 97 2 = some (.iconst 1, 3, 0, 0, 0, 1) := rfl
theorem i_97_3 : ins 97 3 = some (.iconst 4, 4, 0, 0, 0, 4) := rfl
theorem i_97_4 : ins 97 4 = some (.invokestatic 162, 7, 95, 1, 3, 0) := rfl
theorem i_97_7 : ins 97 7 = some (.ifCond .ne 43, 10, 50, 0, 0, 0) := rfl
theorem i_97_10 : ins 97 10 = some (.iload_n 2, 11, 2, 0, 0, 0) := rfl
theorem i_97_11 : ins 97 11 = some (.iconst 1, 12, 0, 0, 0, 1) := rfl
theorem i_97_12 : ins 97 12 = some (.iconst 2, 13, 0, 0, 0, 2) := rfl
theorem i_97_13 : ins 97 13 = some (.invokestatic 162, 16, 95, 1, 3, 0) := rfl
theorem i_97_16 : ins 97 16 = some (.ifCond .ne 34, 19, 50, 0, 0, 0) := rfl
theorem i_97_19 : ins 97 19 = some (.iload_n 3, 20, 3, 0, 0, 0) := rfl
theorem i_97_20 : ins 97 20 = some (.invokestatic 166, 23, 96, 1, 1, 0) := rfl
theorem i_97_23 : ins 97 23 = some (.ifCond .eq 27, 26, 50, 0, 0, 0) := rfl
theorem i_97_26 : ins 97 26 = some (.iload 4, 28, 4, 0, 0, 0) := rfl
theorem i_97_28 : ins 97 28 = some (.invokestatic 166, 31, 96, 1, 1, 0) := rfl
theorem i_97_31 : ins 97 31 = some (.ifCond .eq 19, 34, 50, 0, 0, 0) := rfl
theorem i_97_34 : ins 97 34 = some (.iload 5, 36, 5, 0, 0, 0) := rfl
theorem i_97_36 : ins 97 36 = some (.invokestatic 166, 39, 96, 1, 1, 0) := rfl
theorem i_97_39 : ins 97 39 = some (.ifCond .eq 11, 42, 50, 0, 0, 0) := rfl
theorem i_97_42 : ins 97 42 = some (.iload 6, 44, 6, 0, 0, 0) := rfl
theorem i_97_44 : ins 97 44 = some (.invokestatic 166, 47, 96, 1, 1, 0) := rfl
theorem i_97_47 : ins 97 47 = some (.ifCond .ne 7, 50, 54, 0, 0, 0) := rfl
theorem i_97_50 : ins 97 50 = some (.iconst 1, 51, 0, 0, 0, 1) := rfl
theorem i_97_51 : ins 97 51 = some (.goto 4, 54, 55, 0, 0, 0) := rfl
theorem i_97_54 : ins 97 54 = some (.iconst 0, 55, 0, 0, 0, 0) := rfl
theorem i_97_55 : ins 97 55 = some (.putfield 159, 58, 7, 0, 0, 0) := rfl
theorem i_97_58 : ins 97 58 = some (.aload_n 0, 59, 0, 0, 0, 0) := rfl
theorem i_97_59 : ins 97 59 = some (.getfield 159, 62, 7, 0, 0, 0) := rfl
theorem i_97_62 : ins 97 62 = some (.ifCond .le 4, 65, 66, 0, 0, 0) := rfl
theorem i_97_65 : ins 97 65 = some (.return_, 66, 0, 0, 0, 0) := rfl
theorem i_97_66 : ins 97 66 = some (.aload_n 0, 67, 0, 0, 0, 0) := rfl
theorem i_97_67 : ins 97 67 = some (.iload_n 1, 68, 1, 0, 0, 0) := rfl
theorem i_97_68 : ins 97 68 = some (.putfield 7, 71, 7, 1, 0, 0) := rfl
theorem i_97_71 : ins 97 71 = some (.aload_n 0, 72, 0, 0, 0, 0) := rfl
theorem i_97_72 : ins 97 72 = some (.iload_n 2, 73, 2, 0, 0, 0) := rfl
theorem i_97_73 : ins 97 73 = some (.putfield 13, 76, 7, 2, 0, 0) := rfl
theorem i_97_76 : ins 97 76 = some (.aload_n 0, 77, 0, 0, 0, 0) := rfl
theorem i_97_77 : ins 97 77 = some (.iload_n 3, 78, 3, 0, 0, 0) := rfl
theorem i_97_78 : ins 97 78 = some (.putfield 16, 81, 7, 3, 0, 0) := rfl
theorem i_97_81 : ins 97 81 = some (.aload_n 0, 82, 0, 0, 0, 0) := rfl
theorem i_97_82 : ins 97 82 = some (.iload 4, 84, 4, 0, 0, 0) := rfl
theorem i_97_84 : ins 97 84 = some (.putfield 19, 87, 7, 4, 0, 0) := rfl
theorem i_97_87 : ins 97 87 = some (.aload_n 0, 88, 0, 0, 0, 0) := rfl
theorem i_97_88 : ins 97 88 = some (.iload 5, 90, 5, 0, 0, 0) := rfl
theorem i_97_90 : ins 97 90 = some (.putfield 22, 93, 7, 5, 0, 0) := rfl
theorem i_97_93 : ins 97 93 = some (.aload_n 0, 94, 0, 0, 0, 0) := rfl
theorem i_97_94 : ins 97 94 = some (.iload 6, 96, 6, 0, 0, 0) := rfl
theorem i_97_96 : ins 97 96 = some (.putfield 25, 99, 7, 6, 0, 0) := rfl
theorem i_97_99 : ins 97 99 = some (.aload_n 0, 100, 0, 0, 0, 0) := rfl
theorem i_97_100 : ins 97 100 = some (.iconst 0, 101, 0, 0, 0, 0) := rfl
theorem i_97_101 : ins 97 101 = some (.putfield 170, 104, 7, 19, 0, 0) := rfl
theorem i_97_104 : ins 97 104 = some (.return_, 105, 0, 0, 0, 0) := rfl
theorem S97_0 {Q : Ou → Prop} {M : Mem} {κ : Kp} (hκ : Rd κ)  {p0 : Int32} {p1 : Int32} {p2 : Int32} {p3 : Int32} {p4 : Int32} {p5 : Int32}
    (k1 : 0 < (bI (if (outR p0 1 4) = true then true else (if (outR p1 1 2) = true then true else (if (!outR p2 1 8) = true then (if (!outR p3 1 8) = true then (if (!outR p4 1 8) = true then (if (!outR p5 1 8) = true then false else true) else true) else true) else true)))) → Q (.inl none, (stM M 134 0 (bI (if (outR p0 1 4) = true then true else (if (outR p1 1 2) = true then true else (if (!outR p2 1 8) = true then (if (!outR p3 1 8) = true then (if (!outR p4 1 8) = true then (if (!outR p5 1 8) = true then false else true) else true) else true) else true))))), κ))
    (k2 : ¬ (0 < (bI (if (outR p0 1 4) = true then true else (if (outR p1 1 2) = true then true else (if (!outR p2 1 8) = true then (if (!outR p3 1 8) = true then (if (!outR p4 1 8) = true then (if (!outR p5 1 8) = true then false else true) else true) else true) else true))))) → Q (.inl none, (stM (stM (stM (stM (stM (stM (stM (stM M 134 0 (bI (if (outR p0 1 4) = true then true else (if (outR p1 1 2) = true then true else (if (!outR p2 1 8) = true then (if (!outR p3 1 8) = true then (if (!outR p4 1 8) = true then (if (!outR p5 1 8) = true then false else true) else true) else true) else true))))) 134 1 p0) 134 2 p1) 134 3 p2) 134 4 p3) 134 5 p4) 134 6 p5) 134 19 0), κ))
    : RT 97 (0, [.ref 134, .int p0, .int p1, .int p2, .int p3, .int p4, .int p5], [], M, κ) Q := by
  refine w_load i_97_0 rfl rfl ?_
  refine w_load i_97_1 rfl rfl ?_
  refine w_push i_97_2 rfl ?_
  refine w_push i_97_3 rfl ?_
  refine w_callS i_97_4 ⟨by decide, by decide, by decide, rfl, rfl⟩ (av := [.int p0, .int 1, .int 4]) (rest := [.ref 134]) rfl rfl (Nat.le_of_ble_eq_true rfl) (v := some (.int (bI (outR p0 1 4)))) (c95 hκ) ?_
  have K1 : RT 97 (55, [.ref 134, .int p0, .int p1, .int p2, .int p3, .int p4, .int p5], [.int (bI (if (outR p0 1 4) = true then true else (if (outR p1 1 2) = true then true else (if (!outR p2 1 8) = true then (if (!outR p3 1 8) = true then (if (!outR p4 1 8) = true then (if (!outR p5 1 8) = true then false else true) else true) else true) else true)))), .ref 134], M, κ) Q := by
    refine w_putI i_97_55 hκ (⟨rfl, by decide⟩ : isOb 134 7) rfl (fun c => absurd c (by decide)) ?_
    refine w_load i_97_58 rfl rfl ?_
    refine w_getI (v := (bI (if (outR p0 1 4) = true then true else (if (outR p1 1 2) = true then true else (if (!outR p2 1 8) = true then (if (!outR p3 1 8) = true then (if (!outR p4 1 8) = true then (if (!outR p5 1 8) = true then false else true) else true) else true) else true))))) i_97_59 hκ (⟨rfl, by decide⟩ : isOb 134 7) rfl (stM_s) ?_
    refine w_if0n (0 < (bI (if (outR p0 1 4) = true then true else (if (outR p1 1 2) = true then true else (if (!outR p2 1 8) = true then (if (!outR p3 1 8) = true then (if (!outR p4 1 8) = true then (if (!outR p5 1 8) = true then false else true) else true) else true) else true))))) i_97_62 cI0_le ?_ ?_
    · intro h2
      exact w_vret i_97_65 rfl (k1 h2)
    · intro h3
      refine w_load i_97_66 rfl rfl ?_
      refine w_load i_97_67 rfl rfl ?_
      refine w_putI i_97_68 hκ (⟨rfl, by decide⟩ : isOb 134 7) rfl (fun c => absurd c (by decide)) ?_
      refine w_load i_97_71 rfl rfl ?_
      refine w_load i_97_72 rfl rfl ?_
      refine w_putI i_97_73 hκ (⟨rfl, by decide⟩ : isOb 134 7) rfl (fun c => absurd c (by decide)) ?_
      refine w_load i_97_76 rfl rfl ?_
      refine w_load i_97_77 rfl rfl ?_
      refine w_putI i_97_78 hκ (⟨rfl, by decide⟩ : isOb 134 7) rfl (fun c => absurd c (by decide)) ?_
      refine w_load i_97_81 rfl rfl ?_
      refine w_load i_97_82 rfl rfl ?_
      refine w_putI i_97_84 hκ (⟨rfl, by decide⟩ : isOb 134 7) rfl (fun c => absurd c (by decide)) ?_
      refine w_load i_97_87 rfl rfl ?_
      refine w_load i_97_88 rfl rfl ?_
      refine w_putI i_97_90 hκ (⟨rfl, by decide⟩ : isOb 134 7) rfl (fun c => absurd c (by decide)) ?_
      refine w_load i_97_93 rfl rfl ?_
      refine w_load i_97_94 rfl rfl ?_
      refine w_putI i_97_96 hκ (⟨rfl, by decide⟩ : isOb 134 7) rfl (fun c => absurd c (by decide)) ?_
      refine w_load i_97_99 rfl rfl ?_
      refine w_push i_97_100 rfl ?_
      refine w_putI i_97_101 hκ (⟨rfl, by decide⟩ : isOb 134 7) rfl (fun _ => rfl) ?_
      exact w_vret i_97_104 rfl (k2 h3)
  refine w_if0 ((outR p0 1 4) = true) i_97_7 cB_ne ?_ ?_
  · intro h4
    refine w_push i_97_50 rfl ?_
    refine w_goto i_97_51 ?_
    exact (by first | exact (K1) | (have K9 := K1; simp only [↓if_pos h4] at K9 ⊢; exact (K9)))
  · intro h5
    refine w_load i_97_10 rfl rfl ?_
    refine w_push i_97_11 rfl ?_
    refine w_push i_97_12 rfl ?_
    refine w_callS i_97_13 ⟨by decide, by decide, by decide, rfl, rfl⟩ (av := [.int p1, .int 1, .int 2]) (rest := [.ref 134]) rfl rfl (Nat.le_of_ble_eq_true rfl) (v := some (.int (bI (outR p1 1 2)))) (c95 hκ) ?_
    refine w_if0 ((outR p1 1 2) = true) i_97_16 cB_ne ?_ ?_
    · intro h6
      refine w_push i_97_50 rfl ?_
      refine w_goto i_97_51 ?_
      exact (by first | exact (K1) | (have K9 := K1; simp only [↓if_neg h5, ↓if_pos h6] at K9 ⊢; exact (K9)))
    · intro h7
      refine w_load i_97_19 rfl rfl ?_
      refine w_callS i_97_20 ⟨by decide, by decide, by decide, rfl, rfl⟩ (av := [.int p2]) (rest := [.ref 134]) rfl rfl (Nat.le_of_ble_eq_true rfl) (v := some (.int (bI (!outR p2 1 8)))) (c96 hκ) ?_
      refine w_if0n ((!outR p2 1 8) = true) i_97_23 cB_eq ?_ ?_
      · intro h8
        refine w_load i_97_26 rfl rfl ?_
        refine w_callS i_97_28 ⟨by decide, by decide, by decide, rfl, rfl⟩ (av := [.int p3]) (rest := [.ref 134]) rfl rfl (Nat.le_of_ble_eq_true rfl) (v := some (.int (bI (!outR p3 1 8)))) (c96 hκ) ?_
        refine w_if0n ((!outR p3 1 8) = true) i_97_31 cB_eq ?_ ?_
        · intro h9
          refine w_load i_97_34 rfl rfl ?_
          refine w_callS i_97_36 ⟨by decide, by decide, by decide, rfl, rfl⟩ (av := [.int p4]) (rest := [.ref 134]) rfl rfl (Nat.le_of_ble_eq_true rfl) (v := some (.int (bI (!outR p4 1 8)))) (c96 hκ) ?_
          refine w_if0n ((!outR p4 1 8) = true) i_97_39 cB_eq ?_ ?_
          · intro h10
            refine w_load i_97_42 rfl rfl ?_
            refine w_callS i_97_44 ⟨by decide, by decide, by decide, rfl, rfl⟩ (av := [.int p5]) (rest := [.ref 134]) rfl rfl (Nat.le_of_ble_eq_true rfl) (v := some (.int (bI (!outR p5 1 8)))) (c96 hκ) ?_
            refine w_if0 ((!outR p5 1 8) = true) i_97_47 cB_ne ?_ ?_
            · intro h11
              refine w_push i_97_54 rfl ?_
              exact (by first | exact (K1) | (have K9 := K1; simp only [↓if_neg h5, ↓if_neg h7, ↓if_pos h8, ↓if_pos h9, ↓if_pos h10, ↓if_pos h11] at K9 ⊢; exact (K9)))
            · intro h12
              refine w_push i_97_50 rfl ?_
              refine w_goto i_97_51 ?_
              exact (by first | exact (K1) | (have K9 := K1; simp only [↓if_neg h5, ↓if_neg h7, ↓if_pos h8, ↓if_pos h9, ↓if_pos h10, ↓if_neg h12] at K9 ⊢; exact (K9)))
          · intro h13
            refine w_push i_97_50 rfl ?_
            refine w_goto i_97_51 ?_
            exact (by first | exact (K1) | (have K9 := K1; simp only [↓if_neg h5, ↓if_neg h7, ↓if_pos h8, ↓if_pos h9, ↓if_neg h13] at K9 ⊢; exact (K9)))
        · intro h14
          refine w_push i_97_50 rfl ?_
          refine w_goto i_97_51 ?_
          exact (by first | exact (K1) | (have K9 := K1; simp only [↓if_neg h5, ↓if_neg h7, ↓if_pos h8, ↓if_neg h14] at K9 ⊢; exact (K9)))
      · intro h15
        refine w_push i_97_50 rfl ?_
        refine w_goto i_97_51 ?_
        exact (by first | exact (K1) | (have K9 := K1; simp only [↓if_neg h5, ↓if_neg h7, ↓if_neg h15] at K9 ⊢; exact (K9)))
theorem i_98_0 : ins 98 0 = some (.iload_n 1, 1, 1, 0, 0, 0) := rfl
theorem i_98_1 : ins 98 1 = some (.iconst 0, 2, 0, 0, 0, 0) := rfl
theorem i_98_2 : ins 98 2 = some (.iconst 3, 3, 0, 0, 0, 3) := rfl
theorem i_98_3 : ins 98 3 = some (.invokestatic 162, 6, 95, 1, 3, 0) := rfl
theorem i_98_6 : ins 98 6 = some (.ifCond .ne 32, 9, 38, 0, 0, 0) := rfl
theorem i_98_9 : ins 98 9 = some (.iload_n 2, 10, 2, 0, 0, 0) := rfl
theorem i_98_10 : ins 98 10 = some (.iconst 0, 11, 0, 0, 0, 0) := rfl
theorem i_98_11 : ins 98 11 = some (.bipush 11, 13, 0, 0, 0, 11) := rfl
theorem i_98_13 : ins 98 13 = some (.invokestatic 162, 16, 95, 1, 3, 0) := rfl
theorem i_98_16 : ins 98 16 = some (.ifCond .ne 22, 19, 38, 0, 0, 0) := rfl
theorem i_98_19 : ins 98 19 = some (.iload_n 3, 20, 3, 0, 0, 0) := rfl
theorem i_98_20 : ins 98 20 = some (.iconst 0, 21, 0, 0, 0, 0) := rfl
theorem i_98_21 : ins 98 21 = some (.iconst 5, 22, 0, 0, 0, 5) := rfl
theorem i_98_22 : ins 98 22 = some (.invokestatic 162, 25, 95, 1, 3, 0) := rfl
theorem i_98_25 : ins 98 25 = some (.ifCond .ne 13, 28, 38, 0, 0, 0) := rfl
theorem i_98_28 : ins 98 28 = some (.iload 4, 30, 4, 0, 0, 0) := rfl
theorem i_98_30 : ins 98 30 = some (.iconst 0, 31, 0, 0, 0, 0) := rfl
theorem i_98_31 : ins 98 31 = some (.iconst 5, 32, 0, 0, 0, 5) := rfl
theorem i_98_32 : ins 98 32 = some (.invokestatic 162, 35, 95, 1, 3, 0) := rfl
theorem i_98_35 : ins 98 35 = some (.ifCond .eq 7, 38, 42, 0, 0, 0) := rfl
theorem i_98_38 : ins 98 38 = some (.iconst 1, 39, 0, 0, 0, 1) := rfl
theorem i_98_39 : ins 98 39 = some (.goto 4, 42, 43, 0, 0, 0) := rfl
theorem i_98_42 : ins 98 42 = some (.iconst 0, 43, 0, 0, 0, 0) := rfl
theorem i_98_43 : ins 98 43 = some (.istore 5, 45, 5, 0, 0, 0) := rfl
theorem i_98_45 : ins 98 45 = some (.aload_n 0, 46, 0, 0, 0, 0) := rfl
theorem i_98_46 : ins 98 46 = some (.iload 5, 48, 5, 0, 0, 0) := rfl
theorem i_98_48 : ins 98 48 = some (.ifCond .eq 7, 51, 55, 0, 0, 0) := rfl
theorem i_98_51 : ins 98 51 = some (.iconst 1, 52, 0, 0, 0, 1) := rfl
theorem i_98_52 : ins 98 52 = some (.goto 17, 55, 69, 0, 0, 0) := rfl
theorem i_98_55 : ins 98 55 = some (.aload_n 0, 56, 0, 0, 0, 0) := rfl
theorem i_98_56 : ins 98 56 = some (.getfield 174, 59, 7, 7, 0, 0) := rfl
theorem i_98_59 : ins 98 59 = some (.bipush 6, 61, 0, 0, 0, 6) := rfl
theorem i_98_61 : ins 98 61 = some (.if_icmp .ne 7, 64, 68, 0, 0, 0) := rfl
theorem i_98_64 : ins 98 64 = some (.iconst 2, 65, 0, 0, 0, 2) := rfl
theorem i_98_65 : ins 98 65 = some (.goto 4, 68, 69, 0, 0, 0) := rfl
theorem i_98_68 : ins 98 68 = some (.iconst 0, 69, 0, 0, 0, 0) := rfl
theorem i_98_69 : ins 98 69 = some (.putfield 159, 72, 7, 0, 0, 0) := rfl
theorem i_98_72 : ins 98 72 = some (.aload_n 0, 73, 0, 0, 0, 0) := rfl
theorem i_98_73 : ins 98 73 = some (.getfield 159, 76, 7, 0, 0, 0) := rfl
theorem i_98_76 : ins 98 76 = some (.ifCond .le 5, 79, 81, 0, 0, 0) := rfl
theorem i_98_79 : ins 98 79 = some (.iconst 0, 80, 0, 0, 0, 0) := rfl
theorem i_98_80 : ins 98 80 = some (.ireturn, 81, 0, 0, 0, 0) := rfl
theorem S98_0 {Q : Ou → Prop} {M : Mem} {κ : Kp} (hκ : Rd κ) {nb : Nat} (hnb6 : nb ≤ 6) (hnb : M 134 7 = nI nb) {p0 : Int32} {p1 : Int32} {p2 : Int32} {p3 : Int32}
    (k1 : 0 < (nI (if (if (outR p0 0 3) = true then true else (if (outR p1 0 11) = true then true else (if (outR p2 0 5) = true then true else (if (outR p3 0 5) = true then true else false)))) = true then 1 else (if nb = 6 then 2 else 0))) → Q (.inl (some (.int 0)), (stM M 134 0 (nI (if (if (outR p0 0 3) = true then true else (if (outR p1 0 11) = true then true else (if (outR p2 0 5) = true then true else (if (outR p3 0 5) = true then true else false)))) = true then 1 else (if nb = 6 then 2 else 0)))), κ))
    (k2 : ¬ (0 < (nI (if (if (outR p0 0 3) = true then true else (if (outR p1 0 11) = true then true else (if (outR p2 0 5) = true then true else (if (outR p3 0 5) = true then true else false)))) = true then 1 else (if nb = 6 then 2 else 0)))) → RT 98 (81, [.ref 134, .int p0, .int p1, .int p2, .int p3, UU], [], (stM M 134 0 (nI (if (if (outR p0 0 3) = true then true else (if (outR p1 0 11) = true then true else (if (outR p2 0 5) = true then true else (if (outR p3 0 5) = true then true else false)))) = true then 1 else (if nb = 6 then 2 else 0)))), κ) Q)
    : RT 98 (0, [.ref 134, .int p0, .int p1, .int p2, .int p3, UU], [], M, κ) Q := by
  refine w_load i_98_0 rfl rfl ?_
  refine w_push i_98_1 rfl ?_
  refine w_push i_98_2 rfl ?_
  refine w_callS i_98_3 ⟨by decide, by decide, by decide, rfl, rfl⟩ (av := [.int p0, .int 0, .int 3]) (rest := []) rfl rfl (Nat.le_of_ble_eq_true rfl) (v := some (.int (bI (outR p0 0 3)))) (c95 hκ) ?_
  have K1 : RT 98 (43, [.ref 134, .int p0, .int p1, .int p2, .int p3, UU], [.int (bI (if (outR p0 0 3) = true then true else (if (outR p1 0 11) = true then true else (if (outR p2 0 5) = true then true else (if (outR p3 0 5) = true then true else false)))))], M, κ) Q := by
    refine w_store (l1 := [.ref 134, .int p0, .int p1, .int p2, .int p3, .int (bI (if (outR p0 0 3) = true then true else (if (outR p1 0 11) = true then true else (if (outR p2 0 5) = true then true else (if (outR p3 0 5) = true then true else false)))))]) i_98_43 rfl (Nat.le_of_ble_eq_true rfl) rfl ?_
    refine w_load i_98_45 rfl rfl ?_
    refine w_load i_98_46 rfl rfl ?_
    have K2 : RT 98 (69, [.ref 134, .int p0, .int p1, .int p2, .int p3, .int (bI (if (outR p0 0 3) = true then true else (if (outR p1 0 11) = true then true else (if (outR p2 0 5) = true then true else (if (outR p3 0 5) = true then true else false)))))], [.int (nI (if (if (outR p0 0 3) = true then true else (if (outR p1 0 11) = true then true else (if (outR p2 0 5) = true then true else (if (outR p3 0 5) = true then true else false)))) = true then 1 else (if nb = 6 then 2 else 0))), .ref 134], M, κ) Q := by
      refine w_putI i_98_69 hκ (⟨rfl, by decide⟩ : isOb 134 7) rfl (fun c => absurd c (by decide)) ?_
      refine w_load i_98_72 rfl rfl ?_
      refine w_getI (v := (nI (if (if (outR p0 0 3) = true then true else (if (outR p1 0 11) = true then true else (if (outR p2 0 5) = true then true else (if (outR p3 0 5) = true then true else false)))) = true then 1 else (if nb = 6 then 2 else 0)))) i_98_73 hκ (⟨rfl, by decide⟩ : isOb 134 7) rfl (stM_s) ?_
      refine w_if0n (0 < (nI (if (if (outR p0 0 3) = true then true else (if (outR p1 0 11) = true then true else (if (outR p2 0 5) = true then true else (if (outR p3 0 5) = true then true else false)))) = true then 1 else (if nb = 6 then 2 else 0)))) i_98_76 cI0_le ?_ ?_
      · intro h3
        refine w_push i_98_79 rfl ?_
        exact w_iret i_98_80 (.inl rfl) (k1 h3)
      · intro h4
        exact w_weak (lle_s (lle_s (lle_s (lle_s (lle_s (lle_u lle_n)))))) (k2 h4)
    refine w_if0n ((if (outR p0 0 3) = true then true else (if (outR p1 0 11) = true then true else (if (outR p2 0 5) = true then true else (if (outR p3 0 5) = true then true else false)))) = true) i_98_48 cB_eq ?_ ?_
    · intro h5
      refine w_push i_98_51 rfl ?_
      refine w_goto i_98_52 ?_
      exact (by first | exact (K2) | (have K9 := K2; simp only [↓if_pos h5] at K9 ⊢; exact (K9)))
    · intro h6
      refine w_load i_98_55 rfl rfl ?_
      refine w_getI (v := (nI nb)) i_98_56 hκ (⟨rfl, by decide⟩ : isOb 134 7) rfl (hnb) ?_
      refine w_push i_98_59 rfl ?_
      refine w_if2n (nb = 6) i_98_61 (cN_ne (a := nb) (b := 6) (by omega) (by omega)) ?_ ?_
      · intro h7
        refine w_push i_98_64 rfl ?_
        refine w_goto i_98_65 ?_
        exact (by first | exact (K2) | (have K9 := K2; simp only [↓if_neg h6, ↓if_pos h7] at K9 ⊢; exact (K9)))
      · intro h8
        refine w_push i_98_68 rfl ?_
        exact (by first | exact (K2) | (have K9 := K2; simp only [↓if_neg h6, ↓if_neg h8] at K9 ⊢; exact (K9)))
  refine w_if0 ((outR p0 0 3) = true) i_98_6 cB_ne ?_ ?_
  · intro h9
    refine w_push i_98_38 rfl ?_
    refine w_goto i_98_39 ?_
    exact (by first | exact (K1) | (have K9 := K1; simp only [↓if_pos h9] at K9 ⊢; exact (K9)))
  · intro h10
    refine w_load i_98_9 rfl rfl ?_
    refine w_push i_98_10 rfl ?_
    refine w_push i_98_11 rfl ?_
    refine w_callS i_98_13 ⟨by decide, by decide, by decide, rfl, rfl⟩ (av := [.int p1, .int 0, .int 11]) (rest := []) rfl rfl (Nat.le_of_ble_eq_true rfl) (v := some (.int (bI (outR p1 0 11)))) (c95 hκ) ?_
    refine w_if0 ((outR p1 0 11) = true) i_98_16 cB_ne ?_ ?_
    · intro h11
      refine w_push i_98_38 rfl ?_
      refine w_goto i_98_39 ?_
      exact (by first | exact (K1) | (have K9 := K1; simp only [↓if_neg h10, ↓if_pos h11] at K9 ⊢; exact (K9)))
    · intro h12
      refine w_load i_98_19 rfl rfl ?_
      refine w_push i_98_20 rfl ?_
      refine w_push i_98_21 rfl ?_
      refine w_callS i_98_22 ⟨by decide, by decide, by decide, rfl, rfl⟩ (av := [.int p2, .int 0, .int 5]) (rest := []) rfl rfl (Nat.le_of_ble_eq_true rfl) (v := some (.int (bI (outR p2 0 5)))) (c95 hκ) ?_
      refine w_if0 ((outR p2 0 5) = true) i_98_25 cB_ne ?_ ?_
      · intro h13
        refine w_push i_98_38 rfl ?_
        refine w_goto i_98_39 ?_
        exact (by first | exact (K1) | (have K9 := K1; simp only [↓if_neg h10, ↓if_neg h12, ↓if_pos h13] at K9 ⊢; exact (K9)))
      · intro h14
        refine w_load i_98_28 rfl rfl ?_
        refine w_push i_98_30 rfl ?_
        refine w_push i_98_31 rfl ?_
        refine w_callS i_98_32 ⟨by decide, by decide, by decide, rfl, rfl⟩ (av := [.int p3, .int 0, .int 5]) (rest := []) rfl rfl (Nat.le_of_ble_eq_true rfl) (v := some (.int (bI (outR p3 0 5)))) (c95 hκ) ?_
        refine w_if0n ((outR p3 0 5) = true) i_98_35 cB_eq ?_ ?_
        · intro h15
          refine w_push i_98_38 rfl ?_
          refine w_goto i_98_39 ?_
          exact (by first | exact (K1) | (have K9 := K1; simp only [↓if_neg h10, ↓if_neg h12, ↓if_neg h14, ↓if_pos h15] at K9 ⊢; exact (K9)))
        · intro h16
          refine w_push i_98_42 rfl ?_
          exact (by first | exact (K1) | (have K9 := K1; simp only [↓if_neg h10, ↓if_neg h12, ↓if_neg h14, ↓if_neg h16] at K9 ⊢; exact (K9)))
theorem i_98_81 : ins 98 81 = some (.aload_n 0, 82, 0, 0, 0, 0) := rfl
theorem i_98_82 : ins 98 82 = some (.getfield 28, 85, 7, 8, 0, 0) := rfl
theorem i_98_85 : ins 98 85 = some (.aload_n 0, 86, 0, 0, 0, 0) := rfl
theorem i_98_86 : ins 98 86 = some (.getfield 174, 89, 7, 7, 0, 0) := rfl
theorem i_98_89 : ins 98 89 = some (.iload_n 1, 90, 1, 0, 0, 0) := rfl
theorem i_98_90 : ins 98 90 = some (.iastore, 91, 0, 0, 0, 0) := rfl
theorem i_98_91 : ins 98 91 = some (.aload_n 0, 92, 0, 0, 0, 0) := rfl
theorem i_98_92 : ins 98 92 = some (.getfield 32, 95, 7, 9, 0, 0) := rfl
theorem i_98_95 : ins 98 95 = some (.aload_n 0, 96, 0, 0, 0, 0) := rfl
theorem i_98_96 : ins 98 96 = some (.getfield 174, 99, 7, 7, 0, 0) := rfl
theorem i_98_99 : ins 98 99 = some (.iload_n 2, 100, 2, 0, 0, 0) := rfl
theorem i_98_100 : ins 98 100 = some (.iastore, 101, 0, 0, 0, 0) := rfl
theorem i_98_101 : ins 98 101 = some (.aload_n 0, 102, 0, 0, 0, 0) := rfl
theorem i_98_102 : ins 98 102 = some (.getfield 35, 105, 7, 10, 0, 0) := rfl
theorem i_98_105 : ins 98 105 = some (.aload_n 0, 106, 0, 0, 0, 0) := rfl
theorem i_98_106 : ins 98 106 = some (.getfield 174, 109, 7, 7, 0, 0) := rfl
theorem i_98_109 : ins 98 109 = some (.iload_n 3, 110, 3, 0, 0, 0) := rfl
theorem i_98_110 : ins 98 110 = some (.iastore, 111, 0, 0, 0, 0) := rfl
theorem i_98_111 : ins 98 111 = some (.aload_n 0, 112, 0, 0, 0, 0) := rfl
theorem i_98_112 : ins 98 112 = some (.getfield 38, 115, 7, 11, 0, 0) := rfl
theorem i_98_115 : ins 98 115 = some (.aload_n 0, 116, 0, 0, 0, 0) := rfl
theorem i_98_116 : ins 98 116 = some (.getfield 174, 119, 7, 7, 0, 0) := rfl
theorem i_98_119 : ins 98 119 = some (.iload 4, 121, 4, 0, 0, 0) := rfl
theorem i_98_121 : ins 98 121 = some (.iastore, 122, 0, 0, 0, 0) := rfl
theorem i_98_122 : ins 98 122 = some (.aload_n 0, 123, 0, 0, 0, 0) := rfl
theorem i_98_123 : ins 98 123 = some (.getfield 41, 126, 7, 12, 0, 0) := rfl
theorem i_98_126 : ins 98 126 = some (.aload_n 0, 127, 0, 0, 0, 0) := rfl
theorem i_98_127 : ins 98 127 = some (.getfield 174, 130, 7, 7, 0, 0) := rfl
theorem i_98_130 : ins 98 130 = some (.iconst 0, 131, 0, 0, 0, 0) := rfl
theorem i_98_131 : ins 98 131 = some (.iastore, 132, 0, 0, 0, 0) := rfl
theorem i_98_132 : ins 98 132 = some (.aload_n 0, 133, 0, 0, 0, 0) := rfl
theorem i_98_133 : ins 98 133 = some (.dup, 134, 0, 0, 0, 0) := rfl
theorem i_98_134 : ins 98 134 = some (.getfield 174, 137, 7, 7, 0, 0) := rfl
theorem i_98_137 : ins 98 137 = some (.iconst 1, 138, 0, 0, 0, 1) := rfl
theorem i_98_138 : ins 98 138 = some (.iadd, 139, 0, 0, 0, 0) := rfl
theorem i_98_139 : ins 98 139 = some (.putfield 174, 142, 7, 7, 0, 0) := rfl
theorem i_98_142 : ins 98 142 = some (.aload_n 0, 143, 0, 0, 0, 0) := rfl
theorem i_98_143 : ins 98 143 = some (.iconst 0, 144, 0, 0, 0, 0) := rfl
theorem i_98_144 : ins 98 144 = some (.putfield 170, 147, 7, 19, 0, 0) := rfl
theorem i_98_147 : ins 98 147 = some (.aload_n 0, 148, 0, 0, 0, 0) := rfl
theorem i_98_148 : ins 98 148 = some (.getfield 174, 151, 7, 7, 0, 0) := rfl
theorem i_98_151 : ins 98 151 = some (.iconst 1, 152, 0, 0, 0, 1) := rfl
theorem i_98_152 : ins 98 152 = some (.isub, 153, 0, 0, 0, 0) := rfl
theorem i_98_153 : ins 98 153 = some (.ireturn, 154, 0, 0, 0, 0) := rfl
theorem S98_81 {Q : Ou → Prop} {M : Mem} {κ : Kp} (hκ : Rd κ) {nb : Nat} (hnb6 : nb < 6) (hnb : M 134 7 = nI nb) {p0 : Int32} {p1 : Int32} {p2 : Int32} {p3 : Int32}
    (k1 : Q (.inl (some (.int ((nI (nb + 1)) - 1))), (stM (stM (stM (stM (stM (stM (stM M 135 nb p0) 136 nb p1) 137 nb p2) 138 nb p3) 139 nb 0) 134 7 (nI (nb + 1))) 134 19 0), κ))
    : RT 98 (81, [.ref 134, .int p0, .int p1, .int p2, .int p3, UU], [], M, κ) Q := by
  refine w_load i_98_81 rfl rfl ?_
  refine w_getR 135 i_98_82 hκ (⟨rfl, by decide⟩ : isOb 134 7) rfl rfl ?_
  refine w_load i_98_85 rfl rfl ?_
  refine w_getI (v := (nI nb)) i_98_86 hκ (⟨rfl, by decide⟩ : isOb 134 7) rfl (hnb) ?_
  refine w_load i_98_89 rfl rfl ?_
  refine w_iastN (e := nb) i_98_90 hκ (⟨rfl, rfl, by decide⟩ : isAr 135 6) (by omega) (by decide) ?_
  refine w_load i_98_91 rfl rfl ?_
  refine w_getR 136 i_98_92 hκ (⟨rfl, by decide⟩ : isOb 134 7) rfl rfl ?_
  refine w_load i_98_95 rfl rfl ?_
  refine w_getI (v := (nI nb)) i_98_96 hκ (⟨rfl, by decide⟩ : isOb 134 7) rfl ((stM_o (by decide)).trans (hnb)) ?_
  refine w_load i_98_99 rfl rfl ?_
  refine w_iastN (e := nb) i_98_100 hκ (⟨rfl, rfl, by decide⟩ : isAr 136 6) (by omega) (by decide) ?_
  refine w_load i_98_101 rfl rfl ?_
  refine w_getR 137 i_98_102 hκ (⟨rfl, by decide⟩ : isOb 134 7) rfl rfl ?_
  refine w_load i_98_105 rfl rfl ?_
  refine w_getI (v := (nI nb)) i_98_106 hκ (⟨rfl, by decide⟩ : isOb 134 7) rfl ((stM_o (by decide)).trans ((stM_o (by decide)).trans (hnb))) ?_
  refine w_load i_98_109 rfl rfl ?_
  refine w_iastN (e := nb) i_98_110 hκ (⟨rfl, rfl, by decide⟩ : isAr 137 6) (by omega) (by decide) ?_
  refine w_load i_98_111 rfl rfl ?_
  refine w_getR 138 i_98_112 hκ (⟨rfl, by decide⟩ : isOb 134 7) rfl rfl ?_
  refine w_load i_98_115 rfl rfl ?_
  refine w_getI (v := (nI nb)) i_98_116 hκ (⟨rfl, by decide⟩ : isOb 134 7) rfl ((stM_o (by decide)).trans ((stM_o (by decide)).trans ((stM_o (by decide)).trans (hnb)))) ?_
  refine w_load i_98_119 rfl rfl ?_
  refine w_iastN (e := nb) i_98_121 hκ (⟨rfl, rfl, by decide⟩ : isAr 138 6) (by omega) (by decide) ?_
  refine w_load i_98_122 rfl rfl ?_
  refine w_getR 139 i_98_123 hκ (⟨rfl, by decide⟩ : isOb 134 7) rfl rfl ?_
  refine w_load i_98_126 rfl rfl ?_
  refine w_getI (v := (nI nb)) i_98_127 hκ (⟨rfl, by decide⟩ : isOb 134 7) rfl ((stM_o (by decide)).trans ((stM_o (by decide)).trans ((stM_o (by decide)).trans ((stM_o (by decide)).trans (hnb))))) ?_
  refine w_push i_98_130 rfl ?_
  refine w_iastN (e := nb) i_98_131 hκ (⟨rfl, rfl, by decide⟩ : isAr 139 6) (by omega) (by decide) ?_
  refine w_load i_98_132 rfl rfl ?_
  refine w_dup i_98_133 rfl ?_
  refine w_getI (v := (nI nb)) i_98_134 hκ (⟨rfl, by decide⟩ : isOb 134 7) rfl ((stM_o (by decide)).trans ((stM_o (by decide)).trans ((stM_o (by decide)).trans ((stM_o (by decide)).trans ((stM_o (by decide)).trans (hnb)))))) ?_
  refine w_push i_98_137 rfl ?_
  refine w_bin (w := (nI (nb + 1))) i_98_138 rfl (nI_add nb 1) ?_
  refine w_putI i_98_139 hκ (⟨rfl, by decide⟩ : isOb 134 7) rfl (fun c => absurd c (by decide)) ?_
  refine w_load i_98_142 rfl rfl ?_
  refine w_push i_98_143 rfl ?_
  refine w_putI i_98_144 hκ (⟨rfl, by decide⟩ : isOb 134 7) rfl (fun _ => rfl) ?_
  refine w_load i_98_147 rfl rfl ?_
  refine w_getI (v := (nI (nb + 1))) i_98_148 hκ (⟨rfl, by decide⟩ : isOb 134 7) rfl ((stM_j (by decide)).trans (stM_s)) ?_
  refine w_push i_98_151 rfl ?_
  refine w_bin (w := ((nI (nb + 1)) - 1)) i_98_152 rfl rfl ?_
  exact w_iret i_98_153 (.inl rfl) (k1)
theorem i_99_0 : ins 99 0 = some (.iload_n 1, 1, 1, 0, 0, 0) := rfl
theorem i_99_1 : ins 99 1 = some (.iconst 0, 2, 0, 0, 0, 0) := rfl
theorem i_99_2 : ins 99 2 = some (.bipush 9, 4, 0, 0, 0, 9) := rfl
theorem i_99_4 : ins 99 4 = some (.invokestatic 162, 7, 95, 1, 3, 0) := rfl
theorem i_99_7 : ins 99 7 = some (.ifCond .ne 46, 10, 53, 0, 0, 0) := rfl
theorem i_99_10 : ins 99 10 = some (.iload_n 2, 11, 2, 0, 0, 0) := rfl
theorem i_99_11 : ins 99 11 = some (.iconst 0, 12, 0, 0, 0, 0) := rfl
theorem i_99_12 : ins 99 12 = some (.bipush 11, 14, 0, 0, 0, 11) := rfl
theorem i_99_14 : ins 99 14 = some (.invokestatic 162, 17, 95, 1, 3, 0) := rfl
theorem i_99_17 : ins 99 17 = some (.ifCond .ne 36, 20, 53, 0, 0, 0) := rfl
theorem i_99_20 : ins 99 20 = some (.iload_n 3, 21, 3, 0, 0, 0) := rfl
theorem i_99_21 : ins 99 21 = some (.iconst 0, 22, 0, 0, 0, 0) := rfl
theorem i_99_22 : ins 99 22 = some (.bipush 11, 24, 0, 0, 0, 11) := rfl
theorem i_99_24 : ins 99 24 = some (.invokestatic 162, 27, 95, 1, 3, 0) := rfl
theorem i_99_27 : ins 99 27 = some (.ifCond .ne 26, 30, 53, 0, 0, 0) := rfl
theorem i_99_30 : ins 99 30 = some (.iload 4, 32, 4, 0, 0, 0) := rfl
theorem i_99_32 : ins 99 32 = some (.iconst 0, 33, 0, 0, 0, 0) := rfl
theorem i_99_33 : ins 99 33 = some (.bipush 11, 35, 0, 0, 0, 11) := rfl
theorem i_99_35 : ins 99 35 = some (.invokestatic 162, 38, 95, 1, 3, 0) := rfl
theorem i_99_38 : ins 99 38 = some (.ifCond .ne 15, 41, 53, 0, 0, 0) := rfl
theorem i_99_41 : ins 99 41 = some (.iload 6, 43, 6, 0, 0, 0) := rfl
theorem i_99_43 : ins 99 43 = some (.bipush (-12), 45, 0, 0, 0, (-12)) := rfl
theorem i_99_45 : ins 99 45 = some (.bipush 12, 47, 0, 0, 0, 12) := rfl
theorem i_99_47 : ins 99 47 = some (.invokestatic 162, 50, 95, 1, 3, 0) := rfl
theorem i_99_50 : ins 99 50 = some (.ifCond .eq 7, 53, 57, 0, 0, 0) := rfl
theorem i_99_53 : ins 99 53 = some (.iconst 1, 54, 0, 0, 0, 1) := rfl
theorem i_99_54 : ins 99 54 = some (.goto 4, 57, 58, 0, 0, 0) := rfl
theorem i_99_57 : ins 99 57 = some (.iconst 0, 58, 0, 0, 0, 0) := rfl
theorem i_99_58 : ins 99 58 = some (.istore 7, 60, 7, 0, 0, 0) := rfl
theorem i_99_60 : ins 99 60 = some (.aload_n 0, 61, 0, 0, 0, 0) := rfl
theorem i_99_61 : ins 99 61 = some (.iload 7, 63, 7, 0, 0, 0) := rfl
theorem i_99_63 : ins 99 63 = some (.ifCond .eq 7, 66, 70, 0, 0, 0) := rfl
theorem i_99_66 : ins 99 66 = some (.iconst 1, 67, 0, 0, 0, 1) := rfl
theorem i_99_67 : ins 99 67 = some (.goto 31, 70, 98, 0, 0, 0) := rfl
theorem i_99_70 : ins 99 70 = some (.aload_n 0, 71, 0, 0, 0, 0) := rfl
theorem i_99_71 : ins 99 71 = some (.getfield 174, 74, 7, 7, 0, 0) := rfl
theorem i_99_74 : ins 99 74 = some (.ifCond .eq 19, 77, 93, 0, 0, 0) := rfl
theorem i_99_77 : ins 99 77 = some (.aload_n 0, 78, 0, 0, 0, 0) := rfl
theorem i_99_78 : ins 99 78 = some (.getfield 41, 81, 7, 12, 0, 0) := rfl
theorem i_99_81 : ins 99 81 = some (.aload_n 0, 82, 0, 0, 0, 0) := rfl
theorem i_99_82 : ins 99 82 = some (.getfield 174, 85, 7, 7, 0, 0) := rfl
theorem i_99_85 : ins 99 85 = some (.iconst 1, 86, 0, 0, 0, 1) := rfl
theorem i_99_86 : ins 99 86 = some (.isub, 87, 0, 0, 0, 0) := rfl
theorem i_99_87 : ins 99 87 = some (.iaload, 88, 0, 0, 0, 0) := rfl
theorem i_99_88 : ins 99 88 = some (.bipush 10, 90, 0, 0, 0, 10) := rfl
theorem i_99_90 : ins 99 90 = some (.if_icmp .ne 7, 93, 97, 0, 0, 0) := rfl
theorem i_99_93 : ins 99 93 = some (.iconst 2, 94, 0, 0, 0, 2) := rfl
theorem i_99_94 : ins 99 94 = some (.goto 4, 97, 98, 0, 0, 0) := rfl
theorem i_99_97 : ins 99 97 = some (.iconst 0, 98, 0, 0, 0, 0) := rfl
theorem i_99_98 : ins 99 98 = some (.putfield 159, 101, 7, 0, 0, 0) := rfl
theorem i_99_101 : ins 99 101 = some (.aload_n 0, 102, 0, 0, 0, 0) := rfl
theorem i_99_102 : ins 99 102 = some (.getfield 159, 105, 7, 0, 0, 0) := rfl
theorem i_99_105 : ins 99 105 = some (.ifCond .le 5, 108, 110, 0, 0, 0) := rfl
theorem i_99_108 : ins 99 108 = some (.iconst 0, 109, 0, 0, 0, 0) := rfl
theorem i_99_109 : ins 99 109 = some (.ireturn, 110, 0, 0, 0, 0) := rfl
theorem S99_0 {Q : Ou → Prop} {M : Mem} {κ : Kp} (hκ : Rd κ) {nb : Nat} (hnb6 : nb ≤ 6) (hnb : M 134 7 = nI nb) {p0 : Int32} {p1 : Int32} {p2 : Int32} {p3 : Int32} {p4 : Int32} {p5 : Int32}
    (o1 : ¬ ((if (outR p0 0 9) = true then true else (if (outR p1 0 11) = true then true else (if (outR p2 0 11) = true then true else (if (outR p3 0 11) = true then true else (if (outR p5 (-12) 12) = true then true else false))))) = true) → ¬ (nb = 0) → vp_in ((nI nb) - 1) 6)
    (k1 : 0 < (nI (if (if (outR p0 0 9) = true then true else (if (outR p1 0 11) = true then true else (if (outR p2 0 11) = true then true else (if (outR p3 0 11) = true then true else (if (outR p5 (-12) 12) = true then true else false))))) = true then 1 else (if nb = 0 then 2 else (if (M 139 (((nI nb) - 1).toNatClampNeg)) = 10 then 2 else 0)))) → Q (.inl (some (.int 0)), (stM M 134 0 (nI (if (if (outR p0 0 9) = true then true else (if (outR p1 0 11) = true then true else (if (outR p2 0 11) = true then true else (if (outR p3 0 11) = true then true else (if (outR p5 (-12) 12) = true then true else false))))) = true then 1 else (if nb = 0 then 2 else (if (M 139 (((nI nb) - 1).toNatClampNeg)) = 10 then 2 else 0))))), κ))
    (k2 : ¬ (0 < (nI (if (if (outR p0 0 9) = true then true else (if (outR p1 0 11) = true then true else (if (outR p2 0 11) = true then true else (if (outR p3 0 11) = true then true else (if (outR p5 (-12) 12) = true then true else false))))) = true then 1 else (if nb = 0 then 2 else (if (M 139 (((nI nb) - 1).toNatClampNeg)) = 10 then 2 else 0))))) → RT 99 (110, [.ref 134, .int p0, .int p1, .int p2, .int p3, .int p4, .int p5, UU, UU], [], (stM M 134 0 (nI (if (if (outR p0 0 9) = true then true else (if (outR p1 0 11) = true then true else (if (outR p2 0 11) = true then true else (if (outR p3 0 11) = true then true else (if (outR p5 (-12) 12) = true then true else false))))) = true then 1 else (if nb = 0 then 2 else (if (M 139 (((nI nb) - 1).toNatClampNeg)) = 10 then 2 else 0))))), κ) Q)
    : RT 99 (0, [.ref 134, .int p0, .int p1, .int p2, .int p3, .int p4, .int p5, UU, UU], [], M, κ) Q := by
  refine w_load i_99_0 rfl rfl ?_
  refine w_push i_99_1 rfl ?_
  refine w_push i_99_2 rfl ?_
  refine w_callS i_99_4 ⟨by decide, by decide, by decide, rfl, rfl⟩ (av := [.int p0, .int 0, .int 9]) (rest := []) rfl rfl (Nat.le_of_ble_eq_true rfl) (v := some (.int (bI (outR p0 0 9)))) (c95 hκ) ?_
  have K1 : RT 99 (58, [.ref 134, .int p0, .int p1, .int p2, .int p3, .int p4, .int p5, UU, UU], [.int (bI (if (outR p0 0 9) = true then true else (if (outR p1 0 11) = true then true else (if (outR p2 0 11) = true then true else (if (outR p3 0 11) = true then true else (if (outR p5 (-12) 12) = true then true else false))))))], M, κ) Q := by
    refine w_store (l1 := [.ref 134, .int p0, .int p1, .int p2, .int p3, .int p4, .int p5, .int (bI (if (outR p0 0 9) = true then true else (if (outR p1 0 11) = true then true else (if (outR p2 0 11) = true then true else (if (outR p3 0 11) = true then true else (if (outR p5 (-12) 12) = true then true else false)))))), UU]) i_99_58 rfl (Nat.le_of_ble_eq_true rfl) rfl ?_
    refine w_load i_99_60 rfl rfl ?_
    refine w_load i_99_61 rfl rfl ?_
    have K2 : RT 99 (98, [.ref 134, .int p0, .int p1, .int p2, .int p3, .int p4, .int p5, .int (bI (if (outR p0 0 9) = true then true else (if (outR p1 0 11) = true then true else (if (outR p2 0 11) = true then true else (if (outR p3 0 11) = true then true else (if (outR p5 (-12) 12) = true then true else false)))))), UU], [.int (nI (if (if (outR p0 0 9) = true then true else (if (outR p1 0 11) = true then true else (if (outR p2 0 11) = true then true else (if (outR p3 0 11) = true then true else (if (outR p5 (-12) 12) = true then true else false))))) = true then 1 else (if nb = 0 then 2 else (if (M 139 (((nI nb) - 1).toNatClampNeg)) = 10 then 2 else 0)))), .ref 134], M, κ) Q := by
      refine w_putI i_99_98 hκ (⟨rfl, by decide⟩ : isOb 134 7) rfl (fun c => absurd c (by decide)) ?_
      refine w_load i_99_101 rfl rfl ?_
      refine w_getI (v := (nI (if (if (outR p0 0 9) = true then true else (if (outR p1 0 11) = true then true else (if (outR p2 0 11) = true then true else (if (outR p3 0 11) = true then true else (if (outR p5 (-12) 12) = true then true else false))))) = true then 1 else (if nb = 0 then 2 else (if (M 139 (((nI nb) - 1).toNatClampNeg)) = 10 then 2 else 0))))) i_99_102 hκ (⟨rfl, by decide⟩ : isOb 134 7) rfl (stM_s) ?_
      refine w_if0n (0 < (nI (if (if (outR p0 0 9) = true then true else (if (outR p1 0 11) = true then true else (if (outR p2 0 11) = true then true else (if (outR p3 0 11) = true then true else (if (outR p5 (-12) 12) = true then true else false))))) = true then 1 else (if nb = 0 then 2 else (if (M 139 (((nI nb) - 1).toNatClampNeg)) = 10 then 2 else 0))))) i_99_105 cI0_le ?_ ?_
      · intro h3
        refine w_push i_99_108 rfl ?_
        exact w_iret i_99_109 (.inl rfl) (k1 h3)
      · intro h4
        exact w_weak (lle_s (lle_s (lle_s (lle_s (lle_s (lle_s (lle_s (lle_u (lle_s lle_n))))))))) (k2 h4)
    refine w_if0n ((if (outR p0 0 9) = true then true else (if (outR p1 0 11) = true then true else (if (outR p2 0 11) = true then true else (if (outR p3 0 11) = true then true else (if (outR p5 (-12) 12) = true then true else false))))) = true) i_99_63 cB_eq ?_ ?_
    · intro h5
      refine w_push i_99_66 rfl ?_
      refine w_goto i_99_67 ?_
      exact (by first | exact (K2) | (have K9 := K2; simp only [↓if_pos h5] at K9 ⊢; exact (K9)))
    · intro h6
      refine w_load i_99_70 rfl rfl ?_
      refine w_getI (v := (nI nb)) i_99_71 hκ (⟨rfl, by decide⟩ : isOb 134 7) rfl (hnb) ?_
      refine w_if0 (nb = 0) i_99_74 (cZ_eq (a := nb) (by omega) (by decide)) ?_ ?_
      · intro h7
        refine w_push i_99_93 rfl ?_
        refine w_goto i_99_94 ?_
        exact (by first | exact (K2) | (have K9 := K2; simp only [↓if_neg h6, ↓if_pos h7] at K9 ⊢; exact (K9)))
      · intro h8
        refine w_load i_99_77 rfl rfl ?_
        refine w_getR 139 i_99_78 hκ (⟨rfl, by decide⟩ : isOb 134 7) rfl rfl ?_
        refine w_load i_99_81 rfl rfl ?_
        refine w_getI (v := (nI nb)) i_99_82 hκ (⟨rfl, by decide⟩ : isOb 134 7) rfl (hnb) ?_
        refine w_push i_99_85 rfl ?_
        refine w_bin (w := ((nI nb) - 1)) i_99_86 rfl rfl ?_
        refine w_iald (v := (M 139 (((nI nb) - 1).toNatClampNeg))) i_99_87 hκ (⟨rfl, rfl, by decide⟩ : isAr 139 6) (o1 h6 h8) (rfl) ?_
        refine w_push i_99_88 rfl ?_
        refine w_if2n ((M 139 (((nI nb) - 1).toNatClampNeg)) = 10) i_99_90 cI_ne ?_ ?_
        · intro h9
          refine w_push i_99_93 rfl ?_
          refine w_goto i_99_94 ?_
          exact (by first | exact (K2) | (have K9 := K2; simp only [↓if_neg h6, ↓if_neg h8, ↓if_pos h9] at K9 ⊢; exact (K9)))
        · intro h10
          refine w_push i_99_97 rfl ?_
          exact (by first | exact (K2) | (have K9 := K2; simp only [↓if_neg h6, ↓if_neg h8, ↓if_neg h10] at K9 ⊢; exact (K9)))
  refine w_if0 ((outR p0 0 9) = true) i_99_7 cB_ne ?_ ?_
  · intro h11
    refine w_push i_99_53 rfl ?_
    refine w_goto i_99_54 ?_
    exact (by first | exact (K1) | (have K9 := K1; simp only [↓if_pos h11] at K9 ⊢; exact (K9)))
  · intro h12
    refine w_load i_99_10 rfl rfl ?_
    refine w_push i_99_11 rfl ?_
    refine w_push i_99_12 rfl ?_
    refine w_callS i_99_14 ⟨by decide, by decide, by decide, rfl, rfl⟩ (av := [.int p1, .int 0, .int 11]) (rest := []) rfl rfl (Nat.le_of_ble_eq_true rfl) (v := some (.int (bI (outR p1 0 11)))) (c95 hκ) ?_
    refine w_if0 ((outR p1 0 11) = true) i_99_17 cB_ne ?_ ?_
    · intro h13
      refine w_push i_99_53 rfl ?_
      refine w_goto i_99_54 ?_
      exact (by first | exact (K1) | (have K9 := K1; simp only [↓if_neg h12, ↓if_pos h13] at K9 ⊢; exact (K9)))
    · intro h14
      refine w_load i_99_20 rfl rfl ?_
      refine w_push i_99_21 rfl ?_
      refine w_push i_99_22 rfl ?_
      refine w_callS i_99_24 ⟨by decide, by decide, by decide, rfl, rfl⟩ (av := [.int p2, .int 0, .int 11]) (rest := []) rfl rfl (Nat.le_of_ble_eq_true rfl) (v := some (.int (bI (outR p2 0 11)))) (c95 hκ) ?_
      refine w_if0 ((outR p2 0 11) = true) i_99_27 cB_ne ?_ ?_
      · intro h15
        refine w_push i_99_53 rfl ?_
        refine w_goto i_99_54 ?_
        exact (by first | exact (K1) | (have K9 := K1; simp only [↓if_neg h12, ↓if_neg h14, ↓if_pos h15] at K9 ⊢; exact (K9)))
      · intro h16
        refine w_load i_99_30 rfl rfl ?_
        refine w_push i_99_32 rfl ?_
        refine w_push i_99_33 rfl ?_
        refine w_callS i_99_35 ⟨by decide, by decide, by decide, rfl, rfl⟩ (av := [.int p3, .int 0, .int 11]) (rest := []) rfl rfl (Nat.le_of_ble_eq_true rfl) (v := some (.int (bI (outR p3 0 11)))) (c95 hκ) ?_
        refine w_if0 ((outR p3 0 11) = true) i_99_38 cB_ne ?_ ?_
        · intro h17
          refine w_push i_99_53 rfl ?_
          refine w_goto i_99_54 ?_
          exact (by first | exact (K1) | (have K9 := K1; simp only [↓if_neg h12, ↓if_neg h14, ↓if_neg h16, ↓if_pos h17] at K9 ⊢; exact (K9)))
        · intro h18
          refine w_load i_99_41 rfl rfl ?_
          refine w_push i_99_43 rfl ?_
          refine w_push i_99_45 rfl ?_
          refine w_callS i_99_47 ⟨by decide, by decide, by decide, rfl, rfl⟩ (av := [.int p5, .int (-12), .int 12]) (rest := []) rfl rfl (Nat.le_of_ble_eq_true rfl) (v := some (.int (bI (outR p5 (-12) 12)))) (c95 hκ) ?_
          refine w_if0n ((outR p5 (-12) 12) = true) i_99_50 cB_eq ?_ ?_
          · intro h19
            refine w_push i_99_53 rfl ?_
            refine w_goto i_99_54 ?_
            exact (by first | exact (K1) | (have K9 := K1; simp only [↓if_neg h12, ↓if_neg h14, ↓if_neg h16, ↓if_neg h18, ↓if_pos h19] at K9 ⊢; exact (K9)))
          · intro h20
            refine w_push i_99_57 rfl ?_
            exact (by first | exact (K1) | (have K9 := K1; simp only [↓if_neg h12, ↓if_neg h14, ↓if_neg h16, ↓if_neg h18, ↓if_neg h20] at K9 ⊢; exact (K9)))
theorem i_100_0 : ins 100 0 = some (.aload_n 0, 1, 0, 0, 0, 0) := rfl
theorem i_100_1 : ins 100 1 = some (.iconst 0, 2, 0, 0, 0, 0) := rfl
theorem i_100_2 : ins 100 2 = some (.putfield 159, 5, 7, 0, 0, 0) := rfl
theorem i_100_5 : ins 100 5 = some (.aload_n 0, 6, 0, 0, 0, 0) := rfl
theorem i_100_6 : ins 100 6 = some (.iconst 0, 7, 0, 0, 0, 0) := rfl
theorem i_100_7 : ins 100 7 = some (.putfield 174, 10, 7, 7, 0, 0) := rfl
theorem i_100_10 : ins 100 10 = some (.aload_n 0, 11, 0, 0, 0, 0) := rfl
theorem i_100_11 : ins 100 11 = some (.iconst 0, 12, 0, 0, 0, 0) := rfl
theorem i_100_12 : ins 100 12 = some (.putfield 170, 15, 7, 19, 0, 0) := rfl
theorem i_100_15 : ins 100 15 = some (.return_, 16, 0, 0, 0, 0) := rfl
theorem S100_0 {Q : Ou → Prop} {M : Mem} {κ : Kp} (hκ : Rd κ)  
    (k1 : Q (.inl none, (stM (stM (stM M 134 0 0) 134 7 0) 134 19 0), κ))
    : RT 100 (0, [.ref 134], [], M, κ) Q := by
  refine w_load i_100_0 rfl rfl ?_
  refine w_push i_100_1 rfl ?_
  refine w_putI i_100_2 hκ (⟨rfl, by decide⟩ : isOb 134 7) rfl (fun c => absurd c (by decide)) ?_
  refine w_load i_100_5 rfl rfl ?_
  refine w_push i_100_6 rfl ?_
  refine w_putI i_100_7 hκ (⟨rfl, by decide⟩ : isOb 134 7) rfl (fun c => absurd c (by decide)) ?_
  refine w_load i_100_10 rfl rfl ?_
  refine w_push i_100_11 rfl ?_
  refine w_putI i_100_12 hκ (⟨rfl, by decide⟩ : isOb 134 7) rfl (fun _ => rfl) ?_
  exact w_vret i_100_15 rfl (k1)
theorem i_101_0 : ins 101 0 = some (.aload_n 0, 1, 0, 0, 0, 0) := rfl
theorem i_101_1 : ins 101 1 = some (.iconst 0, 2, 0, 0, 0, 0) := rfl
theorem i_101_2 : ins 101 2 = some (.putfield 159, 5, 7, 0, 0, 0) := rfl
theorem i_101_5 : ins 101 5 = some (.aload_n 0, 6, 0, 0, 0, 0) := rfl
theorem i_101_6 : ins 101 6 = some (.getfield 141, 9, 7, 47, 0, 0) := rfl
theorem i_101_9 : ins 101 9 = some (.iload_n 1, 10, 1, 0, 0, 0) := rfl
theorem i_101_10 : ins 101 10 = some (.bipush 63, 12, 0, 0, 0, 63) := rfl
theorem i_101_12 : ins 101 12 = some (.iand, 13, 0, 0, 0, 0) := rfl
theorem i_101_13 : ins 101 13 = some (.iload_n 2, 14, 2, 0, 0, 0) := rfl
theorem i_101_14 : ins 101 14 = some (.iastore, 15, 0, 0, 0, 0) := rfl
theorem i_101_15 : ins 101 15 = some (.return_, 16, 0, 0, 0, 0) := rfl
theorem S101_0 {Q : Ou → Prop} {M : Mem} {κ : Kp} (hκ : Rd κ)  {ad : Int32} {va : Int32}
    (o1 : vp_in (ad &&& 63) 64)
    (k1 : Q (.inl none, (stM (stM M 134 0 0) 172 ((ad &&& 63).toNatClampNeg) va), κ))
    : RT 101 (0, [.ref 134, .int ad, .int va], [], M, κ) Q := by
  refine w_load i_101_0 rfl rfl ?_
  refine w_push i_101_1 rfl ?_
  refine w_putI i_101_2 hκ (⟨rfl, by decide⟩ : isOb 134 7) rfl (fun c => absurd c (by decide)) ?_
  refine w_load i_101_5 rfl rfl ?_
  refine w_getR 172 i_101_6 hκ (⟨rfl, by decide⟩ : isOb 134 7) rfl rfl ?_
  refine w_load i_101_9 rfl rfl ?_
  refine w_push i_101_10 rfl ?_
  refine w_bin (w := (ad &&& 63)) i_101_12 rfl rfl ?_
  refine w_load i_101_13 rfl rfl ?_
  refine w_iast i_101_14 hκ (⟨rfl, rfl, by decide⟩ : isAr 172 64) (o1) ?_
  exact w_vret i_101_15 rfl (k1)
theorem i_102_0 : ins 102 0 = some (.aload_n 0, 1, 0, 0, 0, 0) := rfl
theorem i_102_1 : ins 102 1 = some (.iconst 0, 2, 0, 0, 0, 0) := rfl
theorem i_102_2 : ins 102 2 = some (.putfield 159, 5, 7, 0, 0, 0) := rfl
theorem i_102_5 : ins 102 5 = some (.aload_n 0, 6, 0, 0, 0, 0) := rfl
theorem i_102_6 : ins 102 6 = some (.getfield 141, 9, 7, 47, 0, 0) := rfl
theorem i_102_9 : ins 102 9 = some (.iload_n 1, 10, 1, 0, 0, 0) := rfl
theorem i_102_10 : ins 102 10 = some (.bipush 63, 12, 0, 0, 0, 63) := rfl
theorem i_102_12 : ins 102 12 = some (.iand, 13, 0, 0, 0, 0) := rfl
theorem i_102_13 : ins 102 13 = some (.iaload, 14, 0, 0, 0, 0) := rfl
theorem i_102_14 : ins 102 14 = some (.ireturn, 15, 0, 0, 0, 0) := rfl
theorem S102_0 {Q : Ou → Prop} {M : Mem} {κ : Kp} (hκ : Rd κ)  {ad : Int32}
    (o1 : vp_in (ad &&& 63) 64)
    (k1 : Q (.inl (some (.int (M 172 ((ad &&& 63).toNatClampNeg)))), (stM M 134 0 0), κ))
    : RT 102 (0, [.ref 134, .int ad], [], M, κ) Q := by
  refine w_load i_102_0 rfl rfl ?_
  refine w_push i_102_1 rfl ?_
  refine w_putI i_102_2 hκ (⟨rfl, by decide⟩ : isOb 134 7) rfl (fun c => absurd c (by decide)) ?_
  refine w_load i_102_5 rfl rfl ?_
  refine w_getR 172 i_102_6 hκ (⟨rfl, by decide⟩ : isOb 134 7) rfl rfl ?_
  refine w_load i_102_9 rfl rfl ?_
  refine w_push i_102_10 rfl ?_
  refine w_bin (w := (ad &&& 63)) i_102_12 rfl rfl ?_
  refine w_iald (v := (M 172 ((ad &&& 63).toNatClampNeg))) i_102_13 hκ (⟨rfl, rfl, by decide⟩ : isAr 172 64) (o1) ((stM_o (by decide)).trans (rfl)) ?_
  exact w_iret i_102_14 (.inl rfl) (k1)
variable {Q : Ou → Prop} {M M0 : Mem} {κ : Kp}
/-- one exception more -/
def kT (κ : Kp) : Kp := (κ.1, κ.2.1, κ.2.2.1, kN κ, kC κ + 1, kU κ + 6)
def CCp (g : Gs) (mp : Mp) (M : Mem) : Prop := ¬ gN g = 0 ∧ miss g = false ∧ BRl (gV g) (gF g) (gN g) M (s1 g) ∧ ∀ x, x < gN g → (s1 g).2.2.2.1 x = false → PC M mp ((s1 g).1 x) ((s1 g).2.2.1 x) ((s1 g).2.2.2.2 x) (19 + 18 * x)
def MCp (g : Gs) (M : Mem) : Prop := M 134 20 = nI (gN g) ∧ MRl (gV g) (gF g) (gN g) M (s1 g) ∧ ∀ x, x < gN g → (s1 g).2.2.2.1 x = false → PM M ((s1 g).2.2.1 x) x
/-- the class at rest -/
def CI (g : Gs) (mp : Mp) (cf : Bool) (tu : Nat) (tr : Bool) (r : Rs) (M : Mem) : Prop := ∃ o o2, isOc o ∧ isOc o2 ∧ ¬ o = o2 ∧ M 0 8 = nI o ∧ M 0 9 = nI o2 ∧ GCl M g ∧ CMp M mp ∧ M 0 7 = bI cf ∧ RC M o r ∧ M o 1 = nI tu ∧ M o 2 = bI tr ∧ (cf = true → CCp g mp M)
/-- the model at rest -/
def MI (g : Gs) (mp : Mp) (cf : Bool) (tu : Nat) (tr : Bool) (r : Rs) (M : Mem) : Prop := GMd M g ∧ MMp M mp ∧ M 134 19 = bI cf ∧ MEn M tu tr r ∧ (cf = true → MCp g M)
def AOk (g : Gs) (mp : Mp) (tu : Nat) (r : Rs) : Prop := GOk g ∧ MpOk mp ∧ tu ≤ 100 ∧ r.2.2.1 ≤ 1000
section IN
variable {g : Gs} {mp : Mp} {cf : Bool} {tu : Nat} {tr : Bool} {r : Rs} {M' : Mem}
theorem GCl_eq (h6 : gN g ≤ 6) (hf : ∀ x j, (x = 0 ∧ j = 6) ∨ (5 ≤ x ∧ x ≤ 112) → M' x j = M x j) (h : GCl M g) : GCl M' g := by
  obtain ⟨h1, h2⟩ := h
  refine ⟨(hf _ _ (.inl ⟨rfl, rfl⟩)).trans h1, fun z hz => ?_⟩
  obtain ⟨a0, a1, a2, a3, a4, a5⟩ := h2 z hz
  exact ⟨(hf _ _ (.inr (by omega))).trans a0, (hf _ _ (.inr (by omega))).trans a1, (hf _ _ (.inr (by omega))).trans a2, (hf _ _ (.inr (by omega))).trans a3, (hf _ _ (.inr (by omega))).trans a4, fun q hq j hj => (hf _ _ (.inr (by omega))).trans (a5 q hq j hj)⟩
theorem BRl_eq {v : Nat → Int32} {f : Nat → Nat} {nb : Nat} {s : Ss} (h6 : nb ≤ 6) (hf : ∀ x j, 5 ≤ x ∧ x ≤ 112 → M' x j = M x j) (h : BRl v f nb M s) : BRl v f nb M' s := fun z hz => by
  obtain ⟨a0, a1, a2, a3, a4, a5, a6⟩ := h z hz
  exact ⟨(hf _ _ (by omega)).trans a0, (hf _ _ (by omega)).trans a1, (hf _ _ (by omega)).trans a2, (hf _ _ (by omega)).trans a3, (hf _ _ (by omega)).trans a4, (hf _ _ (by omega)).trans a5, fun q hq j hj => (hf _ _ (by omega)).trans (a6 q hq j hj)⟩
theorem CCp_eq (h6 : gN g ≤ 6) (hf : ∀ x j, 5 ≤ x ∧ x ≤ 112 → M' x j = M x j) (h : CCp g mp M) : CCp g mp M' :=
  ⟨h.1, h.2.1, BRl_eq h6 hf h.2.2.1, fun x hx hg => PC_eq (h.2.2.2 x hx hg) (fun o j ho => hf o j (by omega))⟩
theorem CMp_eq (hf : ∀ j, M' 1 j = M 1 j) (h : CMp M mp) : CMp M' mp := by
  obtain ⟨a, b, c, d, e, f⟩ := h
  exact ⟨(hf _).trans a, (hf _).trans b, (hf _).trans c, (hf _).trans d, (hf _).trans e, (hf _).trans f⟩
theorem RC_eq {o : Nat} (hf : ∀ x j, o ≤ x ∧ x ≤ o + 3 → M' x j = M x j) (h : RC M o r) : RC M' o r := by
  obtain ⟨a, b, c, d⟩ := h
  exact ⟨(hf _ _ (by omega)).trans a, fun i h1 h2 => (hf _ _ (by omega)).trans (b i h1 h2), fun i h1 => (hf _ _ (by omega)).trans (c i h1), fun i h1 => (hf _ _ (by omega)).trans (d i h1)⟩
/-- the class does not read the model -/
theorem CI_md (h6 : gN g ≤ 6) (hf : ∀ x j, x < 134 → M' x j = M x j) (h : CI g mp cf tu tr r M) : CI g mp cf tu tr r M' := by
  obtain ⟨o, o2, h1, h2, h3, h4, h5, h6', h7, h8, h9, ha, hb, hc⟩ := h
  have := oc_rng h1
  exact ⟨o, o2, h1, h2, h3, (hf _ _ (by omega)).trans h4, (hf _ _ (by omega)).trans h5, GCl_eq h6 (fun x j hx => hf x j (by omega)) h6', CMp_eq (fun j => hf _ _ (by omega)) h7, (hf _ _ (by omega)).trans h8, RC_eq (fun x j hx => hf x j (by omega)) h9, (hf _ _ (by omega)).trans ha, (hf _ _ (by omega)).trans hb, fun z => CCp_eq h6 (fun x j hx => hf x j (by omega)) (hc z)⟩
theorem GMd_eq (h6 : gN g ≤ 6) (h7 : M' 134 7 = M 134 7) (hf : ∀ x j, 135 ≤ x ∧ x ≤ 145 → M' x j = M x j) (h : GMd M g) : GMd M' g := by
  obtain ⟨h1, h2⟩ := h
  refine ⟨h7.trans h1, fun z hz => ?_⟩
  obtain ⟨a0, a1, a2, a3, a4, a5⟩ := h2 z hz
  exact ⟨(hf _ _ (by omega)).trans a0, (hf _ _ (by omega)).trans a1, (hf _ _ (by omega)).trans a2, (hf _ _ (by omega)).trans a3, (hf _ _ (by omega)).trans a4, fun q hq j hj => (hf _ _ (by omega)).trans (a5 q hq j hj)⟩
theorem MMp_eq (hf : ∀ j, 1 ≤ j ∧ j ≤ 6 → M' 134 j = M 134 j) (h : MMp M mp) : MMp M' mp := by
  obtain ⟨a, b, c, d, e, f⟩ := h
  exact ⟨(hf _ (by omega)).trans a, (hf _ (by omega)).trans b, (hf _ (by omega)).trans c, (hf _ (by omega)).trans d, (hf _ (by omega)).trans e, (hf _ (by omega)).trans f⟩
theorem MEn_eq (hf : ∀ j, 53 ≤ j ∧ j ≤ 56 → ¬ j = 54 → M' 134 j = M 134 j) (hg : ∀ x j, x = 172 ∨ x = 175 ∨ x = 176 → M' x j = M x j) (h : MEn M tu tr r) : MEn M' tu tr r := by
  obtain ⟨a, b, c, d, e, f⟩ := h
  exact ⟨(hf _ (by omega) (by omega)).trans a, (hf _ (by omega) (by omega)).trans b, (hf _ (by omega) (by omega)).trans c, fun i hi => (hg _ _ (by omega)).trans (d i hi), fun i hi ho => (hg _ _ (by omega)).trans (e i hi ho), fun i hi => (hg _ _ (by omega)).trans (f i hi)⟩
theorem MRl_eq {v : Nat → Int32} {f : Nat → Nat} {nb : Nat} {s : Ss} (hf : ∀ x j, 146 ≤ x ∧ x ≤ 157 → M' x j = M x j) (h : MRl v f nb M s) : MRl v f nb M' s := fun z hz => by
  obtain ⟨a0, a1, a2, a3, a4, a5, a6⟩ := h z hz
  exact ⟨(hf _ _ (by omega)).trans a0, (hf _ _ (by omega)).trans a1, (hf _ _ (by omega)).trans a2, (hf _ _ (by omega)).trans a3, (hf _ _ (by omega)).trans a4, (hf _ _ (by omega)).trans a5, fun q hq j hj => (hf _ _ (by omega)).trans (a6 q hq j hj)⟩
theorem PM_eq {n x : Nat} (hx : x < 6) (hf : ∀ x j, (19 ≤ x ∧ x ≤ 112) ∨ (158 ≤ x ∧ x ≤ 164) → M' x j = M x j) (h : PM M n x) : PM M' n x := by
  obtain ⟨w1, w2, w3, w4, w5⟩ := h
  refine ⟨fun k hk => ?_, ?_, ?_, ?_, ?_⟩
  · obtain ⟨b1, b2, b3⟩ := w1 k hk
    exact ⟨(hf _ _ (by omega)).trans (b1.trans (hf _ _ (by omega)).symm), (hf _ _ (by omega)).trans (b2.trans (hf _ _ (by omega)).symm), (hf _ _ (by omega)).trans (b3.trans (hf _ _ (by omega)).symm)⟩
  · exact (hf _ _ (by omega)).trans (w2.trans (hf _ _ (by omega)).symm)
  · exact (hf _ _ (by omega)).trans (w3.trans (hf _ _ (by omega)).symm)
  · exact (hf _ _ (by omega)).trans (w4.trans (hf _ _ (by omega)).symm)
  · exact (hf _ _ (by omega)).trans (w5.trans (hf _ _ (by omega)).symm)
theorem MCp_eq (h6 : gN g ≤ 6) (h20 : M' 134 20 = M 134 20) (hf : ∀ x j, (19 ≤ x ∧ x ≤ 112) ∨ (146 ≤ x ∧ x ≤ 164) → M' x j = M x j) (h : MCp g M) : MCp g M' :=
  ⟨h20.trans h.1, MRl_eq (fun x j hx => hf x j (by omega)) h.2.1, fun x hx hg => PM_eq (by omega) (fun y j hy => hf y j (by omega)) (h.2.2 x hx hg)⟩
/-- the model reads the plans of the class only -/
theorem MI_cl (h6 : gN g ≤ 6) (hf : ∀ x j, 134 ≤ x → M' x j = M x j) (hp : cf = true → ∀ x j, 19 ≤ x ∧ x ≤ 112 → M' x j = M x j) (h : MI g mp cf tu tr r M) : MI g mp cf tu tr r M' := by
  obtain ⟨h1, h2, h3, h4, h5⟩ := h
  exact ⟨GMd_eq h6 (hf _ _ (by omega)) (fun x j hx => hf x j (by omega)) h1, MMp_eq (fun j _ => hf _ _ (by omega)) h2, (hf _ _ (by omega)).trans h3, MEn_eq (fun j _ _ => hf _ _ (by omega)) (fun x j hx => hf x j (by omega)) h4, fun z => MCp_eq h6 (hf _ _ (by omega)) (fun x j hx => hx.elim (fun y => hp z x j y) (fun y => hf x j (by omega))) (h5 z)⟩
theorem MI_th (h6 : gN g ≤ 6) {w : Int32} (h : MI g mp cf tu tr r M) : MI g mp cf tu tr r (stM M 134 0 w) := by
  obtain ⟨h1, h2, h3, h4, h5⟩ := h
  exact ⟨GMd_eq h6 (stM_j (by decide)) (fun x j hx => stM_o (by omega)) h1, MMp_eq (fun j hj => stM_j (by omega)) h2, (stM_j (by decide)).trans h3, MEn_eq (fun j hj _ => stM_j (by omega)) (fun x j hx => stM_o (by omega)) h4, fun z => MCp_eq h6 (stM_j (by decide)) (fun x j hx => stM_o (by omega)) (h5 z)⟩
theorem outR_inR (v l h : Int32) : outR v l h = !inR l v h := by
  unfold outR inR
  split
  · rfl
  · split <;> rfl
theorem inR_iff {l v h : Int32} : inR l v h = true ↔ l.toInt ≤ v.toInt ∧ v.toInt ≤ h.toInt := by
  unfold inR
  by_cases a : v < l
  · rw [if_pos a]
    rw [ltI] at a
    exact ⟨fun z => (by cases z), fun z => (by omega)⟩
  · rw [if_neg a]
    rw [ltI] at a
    by_cases b : h < v
    · rw [if_pos b]
      rw [ltI] at b
      exact ⟨fun z => (by cases z), fun z => (by omega)⟩
    · rw [if_neg b]
      rw [ltI] at b
      exact ⟨fun _ => (by omega), fun _ => rfl⟩
theorem nI_tn {x : Int32} (h : 0 ≤ x.toInt) : nI x.toInt.toNat = x := by
  apply Int32.toInt_inj.mp
  have := x.toInt_lt
  rw [nI_toInt (by omega)]
  omega
/-- machine -/
def okM (p0 p1 p2 p3 p4 p5 : Int32) : Bool := inR 1 p0 4 && (inR 1 p1 2 && (inR 1 p2 8 && (inR 1 p3 8 && (inR 1 p4 8 && inR 1 p5 8))))
def mpF (p0 p1 p2 p3 p4 p5 : Int32) : Mp := (fun b => if b = true then p1.toInt.toNat else p0.toInt.toNat, p2, p3, p4, p5)
variable {p0 p1 p2 p3 p4 p5 : Int32}
theorem okM_rng (h : okM p0 p1 p2 p3 p4 p5 = true) : (1 ≤ p0.toInt ∧ p0.toInt ≤ 4) ∧ (1 ≤ p1.toInt ∧ p1.toInt ≤ 2) ∧ (1 ≤ p2.toInt ∧ p2.toInt ≤ 8) ∧ (1 ≤ p3.toInt ∧ p3.toInt ≤ 8) ∧ (1 ≤ p4.toInt ∧ p4.toInt ≤ 8) ∧ (1 ≤ p5.toInt ∧ p5.toInt ≤ 8) := by
  unfold okM at h
  simp only [Bool.and_eq_true, inR_iff] at h
  exact h
theorem mpF_ok (h : okM p0 p1 p2 p3 p4 p5 = true) : MpOk (mpF p0 p1 p2 p3 p4 p5) := by
  obtain ⟨h0, h1, h2, h3, h4, h5⟩ := okM_rng h
  refine ⟨?_, ?_, h2, h3, h4, h5⟩
  · show 1 ≤ p0.toInt.toNat ∧ p0.toInt.toNat ≤ 4
    omega
  · show 1 ≤ p1.toInt.toNat ∧ p1.toInt.toNat ≤ 2
    omega
theorem f65 (hκ : Rd κ) (h6 : gN g ≤ 6) (hI : CI g mp cf tu tr r M) (K0 : okM p0 p1 p2 p3 p4 p5 = false → Q (.inr 0, M, kT κ)) (K1 : okM p0 p1 p2 p3 p4 p5 = true → ∀ M', (∀ x j, 134 ≤ x → M' x j = M x j) → (∀ z, z < 6 → ∀ x j, 19 + 18 * z ≤ x → x ≤ 22 + 18 * z → M' x j = M x j) → CI g (mpF p0 p1 p2 p3 p4 p5) false tu tr r M' → Q (.inl none, M', κ)) : RT 65 (0, entL 65 [.ref 0, .int p0, .int p1, .int p2, .int p3, .int p4, .int p5], [], M, κ) Q := by
  refine S65_0 hκ (fun a => K0 ?_) (fun a b => ?_)
  · revert a
    unfold okM
    cases inR 1 p0 4 <;> cases inR 1 p1 2 <;> cases inR 1 p2 8 <;> cases inR 1 p3 8 <;> cases inR 1 p4 8 <;> cases inR 1 p5 8 <;> decide
  · have hok : okM p0 p1 p2 p3 p4 p5 = true := by
      revert a b
      unfold okM
      cases inR 1 p0 4 <;> cases inR 1 p1 2 <;> cases inR 1 p2 8 <;> cases inR 1 p3 8 <;> cases inR 1 p4 8 <;> cases inR 1 p5 8 <;> decide
    obtain ⟨r0, r1, r2⟩ := okM_rng hok
    obtain ⟨o, o2, h1, h2, h3, h4, h5, h6', h7, h8, h9, ha, hb, hc⟩ := hI
    have or := oc_rng h1
    have hf : ∀ x j, ¬ x = 1 → ¬ (x = 0 ∧ j = 7) → stM (stM (stM (stM (stM (stM (stM M 1 0 p0) 1 1 p1) 1 2 p2) 1 3 p3) 1 4 p4) 1 5 p5) 0 7 0 x j = M x j := fun x j e1 e2 => by
      by_cases e : x = 0
      · rw [e]
        rw [e] at e1
        exact (stM_j (fun z => e2 ⟨e, z⟩)).trans ((stM_o e1).trans ((stM_o e1).trans ((stM_o e1).trans ((stM_o e1).trans ((stM_o e1).trans (stM_o e1))))))
      · exact (stM_o e).trans ((stM_o e1).trans ((stM_o e1).trans ((stM_o e1).trans ((stM_o e1).trans ((stM_o e1).trans (stM_o e1))))))
    refine K1 hok _ (fun x j hx => hf x j (by omega) (by omega)) (fun z hz x j q1 q2 => hf x j (by omega) (by omega)) ⟨o, o2, h1, h2, h3, (hf _ _ (by omega) (by omega)).trans h4, (hf _ _ (by omega) (by omega)).trans h5, GCl_eq h6 (fun x j hx => hf x j (by omega) (by omega)) h6', ⟨?_, ?_, ?_, ?_, ?_, ?_⟩, stM_s, RC_eq (fun x j hx => hf x j (by omega) (by omega)) h9, (hf _ _ (by omega) (by omega)).trans ha, (hf _ _ (by omega) (by omega)).trans hb, fun z => by cases z⟩
    · exact (stM_o (by decide)).trans ((stM_j (by decide)).trans ((stM_j (by decide)).trans ((stM_j (by decide)).trans ((stM_j (by decide)).trans ((stM_j (by decide)).trans (stM_s.trans (nI_tn (by omega)).symm))))))
    · exact (stM_o (by decide)).trans ((stM_j (by decide)).trans ((stM_j (by decide)).trans ((stM_j (by decide)).trans ((stM_j (by decide)).trans (stM_s.trans (nI_tn (by omega)).symm)))))
    · exact (stM_o (by decide)).trans ((stM_j (by decide)).trans ((stM_j (by decide)).trans ((stM_j (by decide)).trans stM_s)))
    · exact (stM_o (by decide)).trans ((stM_j (by decide)).trans ((stM_j (by decide)).trans stM_s))
    · exact (stM_o (by decide)).trans ((stM_j (by decide)).trans stM_s)
    · exact (stM_o (by decide)).trans stM_s
theorem f97 (hκ : Rd κ) (h6 : gN g ≤ 6) (hI : MI g mp cf tu tr r M) (K0 : okM p0 p1 p2 p3 p4 p5 = false → ∀ M', (∀ x j, x < 134 → M' x j = M x j) → M' 134 0 = nI 1 → MI g mp cf tu tr r M' → Q (.inl none, M', κ)) (K1 : okM p0 p1 p2 p3 p4 p5 = true → ∀ M', (∀ x j, x < 134 → M' x j = M x j) → M' 134 0 = nI 0 → MI g (mpF p0 p1 p2 p3 p4 p5) false tu tr r M' → Q (.inl none, M', κ)) : RT 97 (0, entL 97 [.ref 134, .int p0, .int p1, .int p2, .int p3, .int p4, .int p5], [], M, κ) Q := by
  have eb : (if (outR p0 1 4) = true then true else (if (outR p1 1 2) = true then true else (if (!outR p2 1 8) = true then (if (!outR p3 1 8) = true then (if (!outR p4 1 8) = true then (if (!outR p5 1 8) = true then false else true) else true) else true) else true))) = !okM p0 p1 p2 p3 p4 p5 := by
    unfold okM
    rw [outR_inR, outR_inR, outR_inR, outR_inR, outR_inR, outR_inR]
    cases inR 1 p0 4 <;> cases inR 1 p1 2 <;> cases inR 1 p2 8 <;> cases inR 1 p3 8 <;> cases inR 1 p4 8 <;> cases inR 1 p5 8 <;> rfl
  refine S97_0 hκ (fun a => ?_) (fun a => ?_)
  · rw [eb] at a ⊢
    cases hok : okM p0 p1 p2 p3 p4 p5 with
    | true => rw [hok] at a; exact absurd a (by decide)
    | false => exact K0 hok _ (fun x j hx => stM_o (by omega)) stM_s (MI_th h6 hI)
  · rw [eb] at a ⊢
    cases hok : okM p0 p1 p2 p3 p4 p5 with
    | false => rw [hok] at a; exact absurd (by decide) a
    | true =>
      obtain ⟨r0, r1, r2⟩ := okM_rng hok
      have hI' := MI_th (w := bI !true) h6 hI
      generalize hM1 : stM M 134 0 (bI !true) = M1 at hI'
      have hz : M1 134 0 = nI 0 := by
        rw [← hM1]
        exact stM_s
      have hl : ∀ x j, x < 134 → M1 x j = M x j := fun x j hx => by
        rw [← hM1]
        exact stM_o (by omega)
      obtain ⟨h1, h2, h3, h4, h5⟩ := hI'
      have hf : ∀ x j, ¬ x = 134 → stM (stM (stM (stM (stM (stM (stM M1 134 1 p0) 134 2 p1) 134 3 p2) 134 4 p3) 134 5 p4) 134 6 p5) 134 19 0 x j = M1 x j := fun x j e => (stM_o e).trans ((stM_o e).trans ((stM_o e).trans ((stM_o e).trans ((stM_o e).trans ((stM_o e).trans (stM_o e))))))
      have hj : ∀ j, ¬ (1 ≤ j ∧ j ≤ 6) → ¬ j = 19 → stM (stM (stM (stM (stM (stM (stM M1 134 1 p0) 134 2 p1) 134 3 p2) 134 4 p3) 134 5 p4) 134 6 p5) 134 19 0 134 j = M1 134 j := fun j e e2 => (stM_j e2).trans ((stM_j (by omega)).trans ((stM_j (by omega)).trans ((stM_j (by omega)).trans ((stM_j (by omega)).trans ((stM_j (by omega)).trans (stM_j (by omega)))))))
      refine K1 hok _ (fun x j hx => (hf x j (by omega)).trans (hl x j hx)) ((hj 0 (by omega) (by omega)).trans hz) ⟨GMd_eq h6 (hj _ (by omega) (by omega)) (fun x j hx => hf x j (by omega)) h1, ⟨?_, ?_, ?_, ?_, ?_, ?_⟩, stM_s, MEn_eq (fun j hj' _ => hj _ (by omega) (by omega)) (fun x j hx => hf x j (by omega)) h4, fun z => by cases z⟩
      · exact (stM_j (by decide)).trans ((stM_j (by decide)).trans ((stM_j (by decide)).trans ((stM_j (by decide)).trans ((stM_j (by decide)).trans ((stM_j (by decide)).trans (stM_s.trans (nI_tn (by omega)).symm))))))
      · exact (stM_j (by decide)).trans ((stM_j (by decide)).trans ((stM_j (by decide)).trans ((stM_j (by decide)).trans ((stM_j (by decide)).trans (stM_s.trans (nI_tn (by omega)).symm)))))
      · exact (stM_j (by decide)).trans ((stM_j (by decide)).trans ((stM_j (by decide)).trans ((stM_j (by decide)).trans stM_s)))
      · exact (stM_j (by decide)).trans ((stM_j (by decide)).trans ((stM_j (by decide)).trans stM_s))
      · exact (stM_j (by decide)).trans ((stM_j (by decide)).trans stM_s)
      · exact (stM_j (by decide)).trans stM_s
/-- erase -/
def gZ : Gs → Gs := fun g => (0, g.2)
theorem f68 (hκ : Rd κ) (hI : CI g mp cf tu tr r M) (K1 : ∀ M', (∀ x j, 134 ≤ x → M' x j = M x j) → (∀ z, z < 6 → ∀ x j, 19 + 18 * z ≤ x → x ≤ 22 + 18 * z → M' x j = M x j) → CI (gZ g) mp false tu tr r M' → Q (.inl none, M', κ)) : RT 68 (0, entL 68 [.ref 0], [], M, κ) Q := by
  obtain ⟨o, o2, h1, h2, h3, h4, h5, h6', h7, h8, h9, ha, hb, hc⟩ := hI
  have or := oc_rng h1
  refine S68_0 hκ (K1 _ (fun x j hx => (stM_o (by omega)).trans (stM_o (by omega))) (fun z hz x j q1 q2 => (stM_o (by omega)).trans (stM_o (by omega))) ⟨o, o2, h1, h2, h3, (stM_j (by decide)).trans ((stM_j (by decide)).trans h4), (stM_j (by decide)).trans ((stM_j (by decide)).trans h5), ⟨(stM_j (by decide)).trans stM_s, fun z hz => absurd hz (Nat.not_lt_zero z)⟩, CMp_eq (fun j => (stM_o (by decide)).trans (stM_o (by decide))) h7, stM_s, RC_eq (fun x j hx => (stM_o (by omega)).trans (stM_o (by omega))) h9, (stM_o (by omega)).trans ((stM_o (by omega)).trans ha), (stM_o (by omega)).trans ((stM_o (by omega)).trans hb), fun z => by cases z⟩)
theorem f100 (hκ : Rd κ) (hI : MI g mp cf tu tr r M) (K1 : ∀ M', (∀ x j, x < 134 → M' x j = M x j) → MI (gZ g) mp false tu tr r M' → Q (.inl none, M', κ)) : RT 100 (0, entL 100 [.ref 134], [], M, κ) Q := by
  obtain ⟨h1, h2, h3, h4, h5⟩ := hI
  refine S100_0 hκ (K1 _ (fun x j hx => (stM_o (by omega)).trans ((stM_o (by omega)).trans (stM_o (by omega)))) ⟨⟨(stM_j (by decide)).trans stM_s, fun z hz => absurd hz (Nat.not_lt_zero z)⟩, MMp_eq (fun j hj => (stM_j (by omega)).trans ((stM_j (by omega)).trans (stM_j (by omega)))) h2, stM_s, MEn_eq (fun j hj _ => (stM_j (by omega)).trans ((stM_j (by omega)).trans (stM_j (by omega)))) (fun x j hx => (stM_o (by omega)).trans ((stM_o (by omega)).trans (stM_o (by omega)))) h4, fun z => by cases z⟩)
/-- poke and peek -/
def pkR (r : Rs) (ad va : Int32) : Rs := (r.1, fun i => if i = (ad &&& 63).toNatClampNeg then va else r.2.1 i, r.2.2)
variable {ad va : Int32}
theorem f69 (hκ : Rd κ) (h6 : gN g ≤ 6) (hI : CI g mp cf tu tr r M) (K1 : ∀ M', (∀ x j, 134 ≤ x ∨ (19 ≤ x ∧ x ≤ 112) → M' x j = M x j) → CI g mp cf tu tr (pkR r ad va) M' → Q (.inl none, M', κ)) : RT 69 (0, entL 69 [.ref 0, .int ad, .int va], [], M, κ) Q := by
  obtain ⟨o, o2, h1, h2, h3, h4, h5, h6', h7, h8, ⟨q1, q2, q3, q4⟩, ha, hb, hc⟩ := hI
  have or := oc_rng h1
  refine S69_0 hκ h1 h4 (a63 ad).1 (K1 _ (fun x j hx => stM_o (by omega)) ⟨o, o2, h1, h2, h3, (stM_o (by omega)).trans h4, (stM_o (by omega)).trans h5, GCl_eq h6 (fun x j hx => stM_o (by omega)) h6', CMp_eq (fun j => stM_o (by omega)) h7, (stM_o (by omega)).trans h8, ⟨(stM_o (by omega)).trans q1, fun i a b => (stM_o (by omega)).trans (q2 i a b), fun i a => (stM_o (by omega)).trans (q3 i a), fun i a => ?_⟩, (stM_o (by omega)).trans ha, (stM_o (by omega)).trans hb, fun z => CCp_eq h6 (fun x j hx => stM_o (by omega)) (hc z)⟩)
  show _ = if i = (ad &&& 63).toNatClampNeg then va else r.2.1 i
  by_cases e : i = (ad &&& 63).toNatClampNeg
  · rw [if_pos e, e]
    exact stM_s
  · rw [if_neg e]
    exact (stM_j e).trans (q4 i a)
theorem f101 (hκ : Rd κ) (h6 : gN g ≤ 6) (hI : MI g mp cf tu tr r M) (K1 : ∀ M', (∀ x j, x < 134 → M' x j = M x j) → MI g mp cf tu tr (pkR r ad va) M' → Q (.inl none, M', κ)) : RT 101 (0, entL 101 [.ref 134, .int ad, .int va], [], M, κ) Q := by
  obtain ⟨h1, h2, h3, ⟨a, b, c, d, e, f⟩, h5⟩ := MI_th (w := 0) h6 hI
  refine S101_0 hκ (a63 ad).1 (K1 _ (fun x j hx => (stM_o (by omega)).trans (stM_o (by omega))) ⟨GMd_eq h6 (stM_o (by decide)) (fun x j hx => stM_o (by omega)) h1, MMp_eq (fun j hj => stM_o (by decide)) h2, (stM_o (by decide)).trans h3, ⟨(stM_o (by decide)).trans a, (stM_o (by decide)).trans b, (stM_o (by decide)).trans c, fun i hi => ?_, fun i hi ho => (stM_o (by decide)).trans (e i hi ho), fun i hi => (stM_o (by decide)).trans (f i hi)⟩, fun z => MCp_eq h6 (stM_o (by decide)) (fun x j hx => stM_o (by omega)) (h5 z)⟩)
  show _ = if i = (ad &&& 63).toNatClampNeg then va else r.2.1 i
  by_cases e : i = (ad &&& 63).toNatClampNeg
  · rw [if_pos e, e]
    exact stM_s
  · rw [if_neg e]
    exact (stM_j e).trans (d i hi)
theorem f70 (hκ : Rd κ) (hI : CI g mp cf tu tr r M) (K1 : Q (.inl (some (.int (r.2.1 (ad &&& 63).toNatClampNeg))), M, κ)) : RT 70 (0, entL 70 [.ref 0, .int ad], [], M, κ) Q := by
  obtain ⟨o, o2, h1, h2, h3, h4, h5, h6', h7, h8, ⟨q1, q2, q3, q4⟩, ha, hb, hc⟩ := hI
  refine S70_0 hκ h1 h4 (a63 ad).1 ?_
  rw [q4 _ (a63 ad).2]
  exact K1
theorem f102 (hκ : Rd κ) (h6 : gN g ≤ 6) (hI : MI g mp cf tu tr r M) (K1 : ∀ M', (∀ x j, x < 134 → M' x j = M x j) → MI g mp cf tu tr r M' → Q (.inl (some (.int (r.2.1 (ad &&& 63).toNatClampNeg))), M', κ)) : RT 102 (0, entL 102 [.ref 134, .int ad], [], M, κ) Q := by
  refine S102_0 hκ (a63 ad).1 ?_
  rw [hI.2.2.2.1.2.2.2.1 _ (a63 ad).2]
  exact K1 _ (fun x j hx => stM_o (by omega)) (MI_th h6 hI)
end IN
end P_53_inv
