/-! shape and place, on both sides -/
section P_56_show
theorem i_147_0 : ins 147 0 = some (.aload_n 0, 1, 0, 0, 0, 0) := rfl
theorem i_147_1 : ins 147 1 = some (.getfield 170, 4, 7, 19, 0, 0) := rfl
theorem i_147_4 : ins 147 4 = some (.ifCond .ne 7, 7, 11, 0, 0, 0) := rfl
theorem i_147_7 : ins 147 7 = some (.iconst 1, 8, 0, 0, 0, 1) := rfl
theorem i_147_8 : ins 147 8 = some (.goto 61, 11, 69, 0, 0, 0) := rfl
theorem i_147_11 : ins 147 11 = some (.iload_n 1, 12, 1, 0, 0, 0) := rfl
theorem i_147_12 : ins 147 12 = some (.iconst 0, 13, 0, 0, 0, 0) := rfl
theorem i_147_13 : ins 147 13 = some (.aload_n 0, 14, 0, 0, 0, 0) := rfl
theorem i_147_14 : ins 147 14 = some (.getfield 196, 17, 7, 20, 0, 0) := rfl
theorem i_147_17 : ins 147 17 = some (.iconst 1, 18, 0, 0, 0, 1) := rfl
theorem i_147_18 : ins 147 18 = some (.isub, 19, 0, 0, 0, 0) := rfl
theorem i_147_19 : ins 147 19 = some (.invokestatic 162, 22, 95, 1, 3, 0) := rfl
theorem i_147_22 : ins 147 22 = some (.ifCond .ne 34, 25, 56, 0, 0, 0) := rfl
theorem i_147_25 : ins 147 25 = some (.aload_n 0, 26, 0, 0, 0, 0) := rfl
theorem i_147_26 : ins 147 26 = some (.getfield 62, 29, 7, 21, 0, 0) := rfl
theorem i_147_29 : ins 147 29 = some (.iload_n 1, 30, 1, 0, 0, 0) := rfl
theorem i_147_30 : ins 147 30 = some (.iconst 0, 31, 0, 0, 0, 0) := rfl
theorem i_147_31 : ins 147 31 = some (.aload_n 0, 32, 0, 0, 0, 0) := rfl
theorem i_147_32 : ins 147 32 = some (.getfield 196, 35, 7, 20, 0, 0) := rfl
theorem i_147_35 : ins 147 35 = some (.iconst 1, 36, 0, 0, 0, 1) := rfl
theorem i_147_36 : ins 147 36 = some (.isub, 37, 0, 0, 0, 0) := rfl
theorem i_147_37 : ins 147 37 = some (.invokestatic 162, 40, 95, 1, 3, 0) := rfl
theorem i_147_40 : ins 147 40 = some (.ifCond .eq 7, 43, 47, 0, 0, 0) := rfl
theorem i_147_43 : ins 147 43 = some (.iconst 0, 44, 0, 0, 0, 0) := rfl
theorem i_147_44 : ins 147 44 = some (.goto 4, 47, 48, 0, 0, 0) := rfl
theorem i_147_47 : ins 147 47 = some (.iload_n 1, 48, 1, 0, 0, 0) := rfl
theorem i_147_48 : ins 147 48 = some (.baload, 49, 0, 0, 0, 0) := rfl
theorem i_147_49 : ins 147 49 = some (.ifCond .ne 7, 52, 56, 0, 0, 0) := rfl
theorem i_147_52 : ins 147 52 = some (.iload_n 2, 53, 2, 0, 0, 0) := rfl
theorem i_147_53 : ins 147 53 = some (.ifCond .ne 7, 56, 60, 0, 0, 0) := rfl
theorem i_147_56 : ins 147 56 = some (.iconst 2, 57, 0, 0, 0, 2) := rfl
theorem i_147_57 : ins 147 57 = some (.goto 12, 60, 69, 0, 0, 0) := rfl
theorem i_147_60 : ins 147 60 = some (.iload_n 3, 61, 3, 0, 0, 0) := rfl
theorem i_147_61 : ins 147 61 = some (.ifCond .eq 7, 64, 68, 0, 0, 0) := rfl
theorem i_147_64 : ins 147 64 = some (.iconst 0, 65, 0, 0, 0, 0) := rfl
theorem i_147_65 : ins 147 65 = some (.goto 4, 68, 69, 0, 0, 0) := rfl
theorem i_147_68 : ins 147 68 = some (.iconst 3, 69, 0, 0, 0, 3) := rfl
theorem i_147_69 : ins 147 69 = some (.ireturn, 70, 0, 0, 0, 0) := rfl
theorem S147_0 {Q : Ou → Prop} {M : Mem} {κ : Kp} (hκ : Rd κ) {nb : Nat} {cf : Bool} (hnb6 : nb ≤ 6) (hnb : M 134 20 = nI nb) (hcf : M 134 19 = bI cf) {kk : Int32} {th : Bool} {kw : Bool}
    (o1 : cf = true → ¬ ((outR kk 0 ((nI nb) - 1)) = true) → vp_in (if (outR kk 0 ((nI nb) - 1)) = true then 0 else kk) 6)
    (k1 : Q (.inl (some (.int (nI (if cf = true then (if (outR kk 0 ((nI nb) - 1)) = true then 2 else (if (M 146 ((if (outR kk 0 ((nI nb) - 1)) = true then 0 else kk).toNatClampNeg)) = 0 then (if th = true then (if kw = true then 0 else 3) else 2) else 2)) else 1)))), M, κ))
    : RT 147 (0, [.ref 134, .int kk, .int (bI th), .int (bI kw)], [], M, κ) Q := by
  refine w_load i_147_0 rfl rfl ?_
  refine w_getI (v := (bI cf)) i_147_1 hκ (⟨rfl, by decide⟩ : isOb 134 7) rfl (hcf) ?_
  have K1 : RT 147 (69, [.ref 134, .int kk, .int (bI th), .int (bI kw)], [.int (nI (if cf = true then (if (outR kk 0 ((nI nb) - 1)) = true then 2 else (if (M 146 ((if (outR kk 0 ((nI nb) - 1)) = true then 0 else kk).toNatClampNeg)) = 0 then (if th = true then (if kw = true then 0 else 3) else 2) else 2)) else 1))], M, κ) Q := by
    exact w_iret i_147_69 (.inl rfl) (k1)
  refine w_if0 (cf = true) i_147_4 cB_ne ?_ ?_
  · intro h2
    refine w_load i_147_11 rfl rfl ?_
    refine w_push i_147_12 rfl ?_
    refine w_load i_147_13 rfl rfl ?_
    refine w_getI (v := (nI nb)) i_147_14 hκ (⟨rfl, by decide⟩ : isOb 134 7) rfl (hnb) ?_
    refine w_push i_147_17 rfl ?_
    refine w_bin (w := ((nI nb) - 1)) i_147_18 rfl rfl ?_
    refine w_callS i_147_19 ⟨by decide, by decide, by decide, rfl, rfl⟩ (av := [.int kk, .int 0, .int ((nI nb) - 1)]) (rest := []) rfl rfl (Nat.le_of_ble_eq_true rfl) (v := some (.int (bI (outR kk 0 ((nI nb) - 1))))) (c95 hκ) ?_
    refine w_if0 ((outR kk 0 ((nI nb) - 1)) = true) i_147_22 cB_ne ?_ ?_
    · intro h3
      refine w_push i_147_56 rfl ?_
      refine w_goto i_147_57 ?_
      exact (by first | exact (K1) | (have K9 := K1; simp only [↓if_pos h2, ↓if_pos h3] at K9 ⊢; exact (K9)))
    · intro h4
      refine w_load i_147_25 rfl rfl ?_
      refine w_getR 146 i_147_26 hκ (⟨rfl, by decide⟩ : isOb 134 7) rfl rfl ?_
      refine w_load i_147_29 rfl rfl ?_
      refine w_push i_147_30 rfl ?_
      refine w_load i_147_31 rfl rfl ?_
      refine w_getI (v := (nI nb)) i_147_32 hκ (⟨rfl, by decide⟩ : isOb 134 7) rfl (hnb) ?_
      refine w_push i_147_35 rfl ?_
      refine w_bin (w := ((nI nb) - 1)) i_147_36 rfl rfl ?_
      refine w_callS i_147_37 ⟨by decide, by decide, by decide, rfl, rfl⟩ (av := [.int kk, .int 0, .int ((nI nb) - 1)]) (rest := [.ref 146]) rfl rfl (Nat.le_of_ble_eq_true rfl) (v := some (.int (bI (outR kk 0 ((nI nb) - 1))))) (c95 hκ) ?_
      have K5 : RT 147 (48, [.ref 134, .int kk, .int (bI th), .int (bI kw)], [.int (if (outR kk 0 ((nI nb) - 1)) = true then 0 else kk), .ref 146], M, κ) Q := by
        refine w_zald (v := (M 146 ((if (outR kk 0 ((nI nb) - 1)) = true then 0 else kk).toNatClampNeg))) i_147_48 hκ (⟨rfl, rfl, by decide⟩ : isZr 146 6) (o1 h2 h4) (rfl) ?_
        refine w_if0n ((M 146 ((if (outR kk 0 ((nI nb) - 1)) = true then 0 else kk).toNatClampNeg)) = 0) i_147_49 cI0_ne ?_ ?_
        · intro h6
          refine w_load i_147_52 rfl rfl ?_
          refine w_if0 (th = true) i_147_53 cB_ne ?_ ?_
          · intro h7
            refine w_load i_147_60 rfl rfl ?_
            refine w_if0n (kw = true) i_147_61 cB_eq ?_ ?_
            · intro h8
              refine w_push i_147_64 rfl ?_
              refine w_goto i_147_65 ?_
              exact (by first | exact (K1) | (have K9 := K1; simp only [↓if_pos h2, ↓if_neg h4, ↓if_pos h6, ↓if_pos h7, ↓if_pos h8] at K9 ⊢; exact (K9)))
            · intro h9
              refine w_push i_147_68 rfl ?_
              exact (by first | exact (K1) | (have K9 := K1; simp only [↓if_pos h2, ↓if_neg h4, ↓if_pos h6, ↓if_pos h7, ↓if_neg h9] at K9 ⊢; exact (K9)))
          · intro h10
            refine w_push i_147_56 rfl ?_
            refine w_goto i_147_57 ?_
            exact (by first | exact (K1) | (have K9 := K1; simp only [↓if_pos h2, ↓if_neg h4, ↓if_pos h6, ↓if_neg h10] at K9 ⊢; exact (K9)))
        · intro h11
          refine w_push i_147_56 rfl ?_
          refine w_goto i_147_57 ?_
          exact (by first | exact (K1) | (have K9 := K1; simp only [↓if_pos h2, ↓if_neg h4, ↓if_neg h11] at K9 ⊢; exact (K9)))
      refine w_if0n ((outR kk 0 ((nI nb) - 1)) = true) i_147_40 cB_eq ?_ ?_
      · intro h12
        refine w_push i_147_43 rfl ?_
        refine w_goto i_147_44 ?_
        exact (by first | exact (K5) | (have K9 := K5; simp only [↓if_pos h12] at K9 ⊢; exact (K9)))
      · intro h13
        refine w_load i_147_47 rfl rfl ?_
        exact (by first | exact (K5) | (have K9 := K5; simp only [↓if_neg h13] at K9 ⊢; exact (K9)))
  · intro h14
    refine w_push i_147_7 rfl ?_
    refine w_goto i_147_8 ?_
    exact (by first | exact (K1) | (have K9 := K1; simp only [↓if_neg h14] at K9 ⊢; exact (K9)))
theorem N147_0 {Q : Ou → Prop} {M : Mem} {κ : Kp} (hκ : Rd κ) (hcf : M 134 19 = 0) {kk : Int32} {th : Bool} {kw : Bool}
    (k1 : Q (.inl (some (.int 1)), M, κ))
    : RT 147 (0, [.ref 134, .int kk, .int (bI th), .int (bI kw)], [], M, κ) Q := by
  refine w_load i_147_0 rfl rfl ?_
  refine w_getI (v := 0) i_147_1 hκ (⟨rfl, by decide⟩ : isOb 134 7) rfl (hcf) ?_
  refine w_if0n ((0 : Int32) = 0) i_147_4 cI0_ne ?_ ?_
  · intro h1
    refine w_push i_147_7 rfl ?_
    refine w_goto i_147_8 ?_
    exact w_iret i_147_69 (.inl rfl) (k1)
  · intro h2
    exact absurd (by decide) h2
theorem i_148_0 : ins 148 0 = some (.aload_n 0, 1, 0, 0, 0, 0) := rfl
theorem i_148_1 : ins 148 1 = some (.aload_n 0, 2, 0, 0, 0, 0) := rfl
theorem i_148_2 : ins 148 2 = some (.iload_n 1, 3, 1, 0, 0, 0) := rfl
theorem i_148_3 : ins 148 3 = some (.iconst 1, 4, 0, 0, 0, 1) := rfl
theorem i_148_4 : ins 148 4 = some (.iload_n 2, 5, 2, 0, 0, 0) := rfl
theorem i_148_5 : ins 148 5 = some (.iconst 0, 6, 0, 0, 0, 0) := rfl
theorem i_148_6 : ins 148 6 = some (.bipush 6, 8, 0, 0, 0, 6) := rfl
theorem i_148_8 : ins 148 8 = some (.invokestatic 162, 11, 95, 1, 3, 0) := rfl
theorem i_148_11 : ins 148 11 = some (.ifCond .ne 7, 14, 18, 0, 0, 0) := rfl
theorem i_148_14 : ins 148 14 = some (.iconst 1, 15, 0, 0, 0, 1) := rfl
theorem i_148_15 : ins 148 15 = some (.goto 4, 18, 19, 0, 0, 0) := rfl
theorem i_148_18 : ins 148 18 = some (.iconst 0, 19, 0, 0, 0, 0) := rfl
theorem i_148_19 : ins 148 19 = some (.invokevirtual 322, 22, 147, 0, 4, 0) := rfl
theorem i_148_22 : ins 148 22 = some (.putfield 159, 25, 7, 0, 0, 0) := rfl
theorem i_148_25 : ins 148 25 = some (.aload_n 0, 26, 0, 0, 0, 0) := rfl
theorem i_148_26 : ins 148 26 = some (.getfield 159, 29, 7, 0, 0, 0) := rfl
theorem i_148_29 : ins 148 29 = some (.ifCond .le 5, 32, 34, 0, 0, 0) := rfl
theorem i_148_32 : ins 148 32 = some (.iconst 0, 33, 0, 0, 0, 0) := rfl
theorem i_148_33 : ins 148 33 = some (.ireturn, 34, 0, 0, 0, 0) := rfl
theorem S148_0 {Q : Ou → Prop} {M : Mem} {κ : Kp} (hκ : Rd κ)  {kk : Int32} {wh : Int32} {r_19 : Nat}
    (o1 : Run 147 (0, entL 147 [.ref 134, .int kk, .int 1, .int (bI (if (outR wh 0 6) = true then false else true))], [], M, κ) (.inl (some (.int (nI r_19))), M, κ))
    (k1 : 0 < (nI r_19) → Q (.inl (some (.int 0)), (stM M 134 0 (nI r_19)), κ))
    (k2 : ¬ (0 < (nI r_19)) → RT 148 (34, [.ref 134, .int kk, .int wh], [], (stM M 134 0 (nI r_19)), κ) Q)
    : RT 148 (0, [.ref 134, .int kk, .int wh], [], M, κ) Q := by
  refine w_load i_148_0 rfl rfl ?_
  refine w_load i_148_1 rfl rfl ?_
  refine w_load i_148_2 rfl rfl ?_
  refine w_push i_148_3 rfl ?_
  refine w_load i_148_4 rfl rfl ?_
  refine w_push i_148_5 rfl ?_
  refine w_push i_148_6 rfl ?_
  refine w_callS i_148_8 ⟨by decide, by decide, by decide, rfl, rfl⟩ (av := [.int wh, .int 0, .int 6]) (rest := [.int 1, .int kk, .ref 134, .ref 134]) rfl rfl (Nat.le_of_ble_eq_true rfl) (v := some (.int (bI (outR wh 0 6)))) (c95 hκ) ?_
  have K1 : RT 148 (19, [.ref 134, .int kk, .int wh], [.int (bI (if (outR wh 0 6) = true then false else true)), .int 1, .int kk, .ref 134, .ref 134], M, κ) Q := by
    refine w_callV (i := _) i_148_19 ⟨by decide, by decide, by decide, rfl⟩ hκ (⟨rfl, by decide⟩ : isOb 134 7) (av := [.int kk, .int 1, .int (bI (if (outR wh 0 6) = true then false else true))]) (rest := [.ref 134]) rfl rfl (Nat.le_of_ble_eq_true rfl) (v := some (.int (nI r_19))) (o1) ?_
    refine w_putI i_148_22 hκ (⟨rfl, by decide⟩ : isOb 134 7) rfl (fun c => absurd c (by decide)) ?_
    refine w_load i_148_25 rfl rfl ?_
    refine w_getI (v := (nI r_19)) i_148_26 hκ (⟨rfl, by decide⟩ : isOb 134 7) rfl (stM_s) ?_
    refine w_if0n (0 < (nI r_19)) i_148_29 cI0_le ?_ ?_
    · intro h2
      refine w_push i_148_32 rfl ?_
      exact w_iret i_148_33 (.inl rfl) (k1 h2)
    · intro h3
      exact (k2 h3)
  refine w_if0 ((outR wh 0 6) = true) i_148_11 cB_ne ?_ ?_
  · intro h4
    refine w_push i_148_18 rfl ?_
    exact (by first | exact (K1) | (have K9 := K1; simp only [↓if_pos h4] at K9 ⊢; exact (K9)))
  · intro h5
    refine w_push i_148_14 rfl ?_
    refine w_goto i_148_15 ?_
    exact (by first | exact (K1) | (have K9 := K1; simp only [↓if_neg h5] at K9 ⊢; exact (K9)))
theorem i_149_0 : ins 149 0 = some (.iload_n 1, 1, 1, 0, 0, 0) := rfl
theorem i_149_1 : ins 149 1 = some (.iconst 0, 2, 0, 0, 0, 0) := rfl
theorem i_149_2 : ins 149 2 = some (.iconst 5, 3, 0, 0, 0, 5) := rfl
theorem i_149_3 : ins 149 3 = some (.invokestatic 162, 6, 95, 1, 3, 0) := rfl
theorem i_149_6 : ins 149 6 = some (.ifCond .ne 36, 9, 42, 0, 0, 0) := rfl
theorem i_149_9 : ins 149 9 = some (.iload_n 2, 10, 2, 0, 0, 0) := rfl
theorem i_149_10 : ins 149 10 = some (.iconst 0, 11, 0, 0, 0, 0) := rfl
theorem i_149_11 : ins 149 11 = some (.aload_n 0, 12, 0, 0, 0, 0) := rfl
theorem i_149_12 : ins 149 12 = some (.getfield 78, 15, 7, 26, 0, 0) := rfl
theorem i_149_15 : ins 149 15 = some (.iload_n 1, 16, 1, 0, 0, 0) := rfl
theorem i_149_16 : ins 149 16 = some (.iconst 0, 17, 0, 0, 0, 0) := rfl
theorem i_149_17 : ins 149 17 = some (.iconst 5, 18, 0, 0, 0, 5) := rfl
theorem i_149_18 : ins 149 18 = some (.invokestatic 162, 21, 95, 1, 3, 0) := rfl
theorem i_149_21 : ins 149 21 = some (.ifCond .eq 7, 24, 28, 0, 0, 0) := rfl
theorem i_149_24 : ins 149 24 = some (.iconst 0, 25, 0, 0, 0, 0) := rfl
theorem i_149_25 : ins 149 25 = some (.goto 4, 28, 29, 0, 0, 0) := rfl
theorem i_149_28 : ins 149 28 = some (.iload_n 1, 29, 1, 0, 0, 0) := rfl
theorem i_149_29 : ins 149 29 = some (.iaload, 30, 0, 0, 0, 0) := rfl
theorem i_149_30 : ins 149 30 = some (.iconst 1, 31, 0, 0, 0, 1) := rfl
theorem i_149_31 : ins 149 31 = some (.isub, 32, 0, 0, 0, 0) := rfl
theorem i_149_32 : ins 149 32 = some (.invokestatic 162, 35, 95, 1, 3, 0) := rfl
theorem i_149_35 : ins 149 35 = some (.ifCond .ne 7, 38, 42, 0, 0, 0) := rfl
theorem i_149_38 : ins 149 38 = some (.iconst 1, 39, 0, 0, 0, 1) := rfl
theorem i_149_39 : ins 149 39 = some (.goto 4, 42, 43, 0, 0, 0) := rfl
theorem i_149_42 : ins 149 42 = some (.iconst 0, 43, 0, 0, 0, 0) := rfl
theorem i_149_43 : ins 149 43 = some (.istore 4, 45, 4, 0, 0, 0) := rfl
theorem i_149_45 : ins 149 45 = some (.aload_n 0, 46, 0, 0, 0, 0) := rfl
theorem i_149_46 : ins 149 46 = some (.aload_n 0, 47, 0, 0, 0, 0) := rfl
theorem i_149_47 : ins 149 47 = some (.iload_n 1, 48, 1, 0, 0, 0) := rfl
theorem i_149_48 : ins 149 48 = some (.iload 4, 50, 4, 0, 0, 0) := rfl
theorem i_149_50 : ins 149 50 = some (.iload_n 3, 51, 3, 0, 0, 0) := rfl
theorem i_149_51 : ins 149 51 = some (.iconst 0, 52, 0, 0, 0, 0) := rfl
theorem i_149_52 : ins 149 52 = some (.iconst 4, 53, 0, 0, 0, 4) := rfl
theorem i_149_53 : ins 149 53 = some (.invokestatic 162, 56, 95, 1, 3, 0) := rfl
theorem i_149_56 : ins 149 56 = some (.ifCond .ne 7, 59, 63, 0, 0, 0) := rfl
theorem i_149_59 : ins 149 59 = some (.iconst 1, 60, 0, 0, 0, 1) := rfl
theorem i_149_60 : ins 149 60 = some (.goto 4, 63, 64, 0, 0, 0) := rfl
theorem i_149_63 : ins 149 63 = some (.iconst 0, 64, 0, 0, 0, 0) := rfl
theorem i_149_64 : ins 149 64 = some (.invokevirtual 322, 67, 147, 0, 4, 0) := rfl
theorem i_149_67 : ins 149 67 = some (.putfield 159, 70, 7, 0, 0, 0) := rfl
theorem i_149_70 : ins 149 70 = some (.aload_n 0, 71, 0, 0, 0, 0) := rfl
theorem i_149_71 : ins 149 71 = some (.getfield 159, 74, 7, 0, 0, 0) := rfl
theorem i_149_74 : ins 149 74 = some (.ifCond .le 5, 77, 79, 0, 0, 0) := rfl
theorem i_149_77 : ins 149 77 = some (.iconst 0, 78, 0, 0, 0, 0) := rfl
theorem i_149_78 : ins 149 78 = some (.ireturn, 79, 0, 0, 0, 0) := rfl
theorem S149_0 {Q : Ou → Prop} {M : Mem} {κ : Kp} (hκ : Rd κ)  {kk : Int32} {xx : Int32} {wh : Int32} {r_64 : Nat}
    (o1 : Run 147 (0, entL 147 [.ref 134, .int kk, .int (bI (if (outR kk 0 5) = true then false else (if (outR xx 0 ((M 151 ((if (outR kk 0 5) = true then 0 else kk).toNatClampNeg)) - 1)) = true then false else true))), .int (bI (if (outR wh 0 4) = true then false else true))], [], M, κ) (.inl (some (.int (nI r_64))), M, κ))
    (o2 : ¬ ((outR kk 0 5) = true) → vp_in (if (outR kk 0 5) = true then 0 else kk) 6)
    (k1 : 0 < (nI r_64) → Q (.inl (some (.int 0)), (stM M 134 0 (nI r_64)), κ))
    (k2 : ¬ (0 < (nI r_64)) → RT 149 (79, [.ref 134, .int kk, .int xx, .int wh, UU, UU], [], (stM M 134 0 (nI r_64)), κ) Q)
    : RT 149 (0, [.ref 134, .int kk, .int xx, .int wh, UU, UU], [], M, κ) Q := by
  refine w_load i_149_0 rfl rfl ?_
  refine w_push i_149_1 rfl ?_
  refine w_push i_149_2 rfl ?_
  refine w_callS i_149_3 ⟨by decide, by decide, by decide, rfl, rfl⟩ (av := [.int kk, .int 0, .int 5]) (rest := []) rfl rfl (Nat.le_of_ble_eq_true rfl) (v := some (.int (bI (outR kk 0 5)))) (c95 hκ) ?_
  have K1 : RT 149 (43, [.ref 134, .int kk, .int xx, .int wh, UU, UU], [.int (bI (if (outR kk 0 5) = true then false else (if (outR xx 0 ((M 151 ((if (outR kk 0 5) = true then 0 else kk).toNatClampNeg)) - 1)) = true then false else true)))], M, κ) Q := by
    refine w_store (l1 := [.ref 134, .int kk, .int xx, .int wh, .int (bI (if (outR kk 0 5) = true then false else (if (outR xx 0 ((M 151 ((if (outR kk 0 5) = true then 0 else kk).toNatClampNeg)) - 1)) = true then false else true))), UU]) i_149_43 rfl (Nat.le_of_ble_eq_true rfl) rfl ?_
    refine w_load i_149_45 rfl rfl ?_
    refine w_load i_149_46 rfl rfl ?_
    refine w_load i_149_47 rfl rfl ?_
    refine w_load i_149_48 rfl rfl ?_
    refine w_load i_149_50 rfl rfl ?_
    refine w_push i_149_51 rfl ?_
    refine w_push i_149_52 rfl ?_
    refine w_callS i_149_53 ⟨by decide, by decide, by decide, rfl, rfl⟩ (av := [.int wh, .int 0, .int 4]) (rest := [.int (bI (if (outR kk 0 5) = true then false else (if (outR xx 0 ((M 151 ((if (outR kk 0 5) = true then 0 else kk).toNatClampNeg)) - 1)) = true then false else true))), .int kk, .ref 134, .ref 134]) rfl rfl (Nat.le_of_ble_eq_true rfl) (v := some (.int (bI (outR wh 0 4)))) (c95 hκ) ?_
    have K2 : RT 149 (64, [.ref 134, .int kk, .int xx, .int wh, .int (bI (if (outR kk 0 5) = true then false else (if (outR xx 0 ((M 151 ((if (outR kk 0 5) = true then 0 else kk).toNatClampNeg)) - 1)) = true then false else true))), UU], [.int (bI (if (outR wh 0 4) = true then false else true)), .int (bI (if (outR kk 0 5) = true then false else (if (outR xx 0 ((M 151 ((if (outR kk 0 5) = true then 0 else kk).toNatClampNeg)) - 1)) = true then false else true))), .int kk, .ref 134, .ref 134], M, κ) Q := by
      refine w_callV (i := _) i_149_64 ⟨by decide, by decide, by decide, rfl⟩ hκ (⟨rfl, by decide⟩ : isOb 134 7) (av := [.int kk, .int (bI (if (outR kk 0 5) = true then false else (if (outR xx 0 ((M 151 ((if (outR kk 0 5) = true then 0 else kk).toNatClampNeg)) - 1)) = true then false else true))), .int (bI (if (outR wh 0 4) = true then false else true))]) (rest := [.ref 134]) rfl rfl (Nat.le_of_ble_eq_true rfl) (v := some (.int (nI r_64))) (o1) ?_
      refine w_putI i_149_67 hκ (⟨rfl, by decide⟩ : isOb 134 7) rfl (fun c => absurd c (by decide)) ?_
      refine w_load i_149_70 rfl rfl ?_
      refine w_getI (v := (nI r_64)) i_149_71 hκ (⟨rfl, by decide⟩ : isOb 134 7) rfl (stM_s) ?_
      refine w_if0n (0 < (nI r_64)) i_149_74 cI0_le ?_ ?_
      · intro h3
        refine w_push i_149_77 rfl ?_
        exact w_iret i_149_78 (.inl rfl) (k1 h3)
      · intro h4
        exact w_weak (lle_s (lle_s (lle_s (lle_s (lle_u (lle_s lle_n)))))) (k2 h4)
    refine w_if0 ((outR wh 0 4) = true) i_149_56 cB_ne ?_ ?_
    · intro h5
      refine w_push i_149_63 rfl ?_
      exact (by first | exact (K2) | (have K9 := K2; simp only [↓if_pos h5] at K9 ⊢; exact (K9)))
    · intro h6
      refine w_push i_149_59 rfl ?_
      refine w_goto i_149_60 ?_
      exact (by first | exact (K2) | (have K9 := K2; simp only [↓if_neg h6] at K9 ⊢; exact (K9)))
  refine w_if0 ((outR kk 0 5) = true) i_149_6 cB_ne ?_ ?_
  · intro h7
    refine w_push i_149_42 rfl ?_
    exact (by first | exact (K1) | (have K9 := K1; simp only [↓if_pos h7] at K9 ⊢; exact (K9)))
  · intro h8
    refine w_load i_149_9 rfl rfl ?_
    refine w_push i_149_10 rfl ?_
    refine w_load i_149_11 rfl rfl ?_
    refine w_getR 151 i_149_12 hκ (⟨rfl, by decide⟩ : isOb 134 7) rfl rfl ?_
    refine w_load i_149_15 rfl rfl ?_
    refine w_push i_149_16 rfl ?_
    refine w_push i_149_17 rfl ?_
    refine w_callS i_149_18 ⟨by decide, by decide, by decide, rfl, rfl⟩ (av := [.int kk, .int 0, .int 5]) (rest := [.ref 151, .int 0, .int xx]) rfl rfl (Nat.le_of_ble_eq_true rfl) (v := some (.int (bI (outR kk 0 5)))) (c95 hκ) ?_
    have K9 : RT 149 (29, [.ref 134, .int kk, .int xx, .int wh, UU, UU], [.int (if (outR kk 0 5) = true then 0 else kk), .ref 151, .int 0, .int xx], M, κ) Q := by
      refine w_iald (v := (M 151 ((if (outR kk 0 5) = true then 0 else kk).toNatClampNeg))) i_149_29 hκ (⟨rfl, rfl, by decide⟩ : isAr 151 6) (o2 h8) (rfl) ?_
      refine w_push i_149_30 rfl ?_
      refine w_bin (w := ((M 151 ((if (outR kk 0 5) = true then 0 else kk).toNatClampNeg)) - 1)) i_149_31 rfl rfl ?_
      refine w_callS i_149_32 ⟨by decide, by decide, by decide, rfl, rfl⟩ (av := [.int xx, .int 0, .int ((M 151 ((if (outR kk 0 5) = true then 0 else kk).toNatClampNeg)) - 1)]) (rest := []) rfl rfl (Nat.le_of_ble_eq_true rfl) (v := some (.int (bI (outR xx 0 ((M 151 ((if (outR kk 0 5) = true then 0 else kk).toNatClampNeg)) - 1))))) (c95 hκ) ?_
      refine w_if0 ((outR xx 0 ((M 151 ((if (outR kk 0 5) = true then 0 else kk).toNatClampNeg)) - 1)) = true) i_149_35 cB_ne ?_ ?_
      · intro h10
        refine w_push i_149_42 rfl ?_
        exact (by first | exact (K1) | (have K9 := K1; simp only [↓if_neg h8, ↓if_pos h10] at K9 ⊢; exact (K9)))
      · intro h11
        refine w_push i_149_38 rfl ?_
        refine w_goto i_149_39 ?_
        exact (by first | exact (K1) | (have K9 := K1; simp only [↓if_neg h8, ↓if_neg h11] at K9 ⊢; exact (K9)))
    refine w_if0n ((outR kk 0 5) = true) i_149_21 cB_eq ?_ ?_
    · intro h12
      refine w_push i_149_24 rfl ?_
      refine w_goto i_149_25 ?_
      exact (by first | exact (K9) | (have K9 := K9; simp only [↓if_pos h12] at K9 ⊢; exact (K9)))
    · intro h13
      refine w_load i_149_28 rfl rfl ?_
      exact (by first | exact (K9) | (have K9 := K9; simp only [↓if_neg h13] at K9 ⊢; exact (K9)))
theorem i_148_34 : ins 148 34 = some (.iload_n 2, 35, 2, 0, 0, 0) := rfl
theorem i_148_35 : ins 148 35 = some (.tableswitch 79 0 5 #[37, 44, 51, 58, 65, 72], 72, 0, 0, 0, 0) := rfl
theorem i_148_72 : ins 148 72 = some (.aload_n 0, 73, 0, 0, 0, 0) := rfl
theorem i_148_73 : ins 148 73 = some (.getfield 78, 76, 7, 26, 0, 0) := rfl
theorem i_148_76 : ins 148 76 = some (.iload_n 1, 77, 1, 0, 0, 0) := rfl
theorem i_148_77 : ins 148 77 = some (.iaload, 78, 0, 0, 0, 0) := rfl
theorem i_148_78 : ins 148 78 = some (.ireturn, 79, 0, 0, 0, 0) := rfl
theorem i_148_79 : ins 148 79 = some (.aload_n 0, 80, 0, 0, 0, 0) := rfl
theorem i_148_80 : ins 148 80 = some (.getfield 108, 83, 7, 36, 0, 0) := rfl
theorem i_148_83 : ins 148 83 = some (.iload_n 1, 84, 1, 0, 0, 0) := rfl
theorem i_148_84 : ins 148 84 = some (.iaload, 85, 0, 0, 0, 0) := rfl
theorem i_148_85 : ins 148 85 = some (.ireturn, 86, 0, 0, 0, 0) := rfl
theorem i_148_86 : ins 148 86 = some (.aload_n 0, 87, 0, 0, 0, 0) := rfl
theorem i_148_87 : ins 148 87 = some (.getfield 111, 90, 7, 37, 0, 0) := rfl
theorem i_148_90 : ins 148 90 = some (.iload_n 1, 91, 1, 0, 0, 0) := rfl
theorem i_148_91 : ins 148 91 = some (.iaload, 92, 0, 0, 0, 0) := rfl
theorem i_148_92 : ins 148 92 = some (.ireturn, 93, 0, 0, 0, 0) := rfl
theorem i_148_93 : ins 148 93 = some (.aload_n 0, 94, 0, 0, 0, 0) := rfl
theorem i_148_94 : ins 148 94 = some (.getfield 114, 97, 7, 38, 0, 0) := rfl
theorem i_148_97 : ins 148 97 = some (.iload_n 1, 98, 1, 0, 0, 0) := rfl
theorem i_148_98 : ins 148 98 = some (.iaload, 99, 0, 0, 0, 0) := rfl
theorem i_148_99 : ins 148 99 = some (.ireturn, 100, 0, 0, 0, 0) := rfl
theorem i_148_100 : ins 148 100 = some (.aload_n 0, 101, 0, 0, 0, 0) := rfl
theorem i_148_101 : ins 148 101 = some (.getfield 117, 104, 7, 39, 0, 0) := rfl
theorem i_148_104 : ins 148 104 = some (.iload_n 1, 105, 1, 0, 0, 0) := rfl
theorem i_148_105 : ins 148 105 = some (.iaload, 106, 0, 0, 0, 0) := rfl
theorem i_148_106 : ins 148 106 = some (.ireturn, 107, 0, 0, 0, 0) := rfl
theorem i_148_107 : ins 148 107 = some (.aload_n 0, 108, 0, 0, 0, 0) := rfl
theorem i_148_108 : ins 148 108 = some (.getfield 66, 111, 7, 22, 0, 0) := rfl
theorem i_148_111 : ins 148 111 = some (.iload_n 1, 112, 1, 0, 0, 0) := rfl
theorem i_148_112 : ins 148 112 = some (.iaload, 113, 0, 0, 0, 0) := rfl
theorem i_148_113 : ins 148 113 = some (.ireturn, 114, 0, 0, 0, 0) := rfl
theorem i_148_114 : ins 148 114 = some (.aload_n 0, 115, 0, 0, 0, 0) := rfl
theorem i_148_115 : ins 148 115 = some (.getfield 72, 118, 7, 24, 0, 0) := rfl
theorem i_148_118 : ins 148 118 = some (.iload_n 1, 119, 1, 0, 0, 0) := rfl
theorem i_148_119 : ins 148 119 = some (.iaload, 120, 0, 0, 0, 0) := rfl
theorem i_148_120 : ins 148 120 = some (.ireturn, 121, 0, 0, 0, 0) := rfl
theorem tg_148_35 {x : Int32} (h0 : ¬ x = 0) (h1 : ¬ x = 1) (h2 : ¬ x = 2) (h3 : ¬ x = 3) (h4 : ¬ x = 4) (h5 : ¬ x = 5) : tgtOk 35 (.tableswitch 79 0 5 #[37, 44, 51, 58, 65, 72]) x 114 = true := tgd (by have e0 : x.toInt ≠ 0 := fun e => h0 (Int32.toInt_inj.mp e); have e1 : x.toInt ≠ 1 := fun e => h1 (Int32.toInt_inj.mp e); have e2 : x.toInt ≠ 2 := fun e => h2 (Int32.toInt_inj.mp e); have e3 : x.toInt ≠ 3 := fun e => h3 (Int32.toInt_inj.mp e); have e4 : x.toInt ≠ 4 := fun e => h4 (Int32.toInt_inj.mp e); have e5 : x.toInt ≠ 5 := fun e => h5 (Int32.toInt_inj.mp e); omega) (by decide)
theorem S148_34 {Q : Ou → Prop} {M : Mem} {κ : Kp} (hκ : Rd κ) {x : Nat} (hx : x < 6) {wh : Int32}
    (k1 : wh = 0 → Q (.inl (some (.int (M 151 x))), M, κ))
    (k2 : ¬ (wh = 0) → wh = 1 → Q (.inl (some (.int (M 161 x))), M, κ))
    (k3 : ¬ (wh = 0) → ¬ (wh = 1) → wh = 2 → Q (.inl (some (.int (M 162 x))), M, κ))
    (k4 : ¬ (wh = 0) → ¬ (wh = 1) → ¬ (wh = 2) → wh = 3 → Q (.inl (some (.int (M 163 x))), M, κ))
    (k5 : ¬ (wh = 0) → ¬ (wh = 1) → ¬ (wh = 2) → ¬ (wh = 3) → wh = 4 → Q (.inl (some (.int (M 164 x))), M, κ))
    (k6 : ¬ (wh = 0) → ¬ (wh = 1) → ¬ (wh = 2) → ¬ (wh = 3) → ¬ (wh = 4) → wh = 5 → Q (.inl (some (.int (M 147 x))), M, κ))
    (k7 : ¬ (wh = 0) → ¬ (wh = 1) → ¬ (wh = 2) → ¬ (wh = 3) → ¬ (wh = 4) → ¬ (wh = 5) → Q (.inl (some (.int (M 149 x))), M, κ))
    : RT 148 (34, [.ref 134, .int (nI x), .int wh], [], M, κ) Q := by
  refine w_load i_148_34 rfl rfl ?_
  by_cases h1 : wh = 0
  · refine w_table 72 i_148_35 (by rw [h1]; rfl) ?_
    refine w_load i_148_72 rfl rfl ?_
    refine w_getR 151 i_148_73 hκ (⟨rfl, by decide⟩ : isOb 134 7) rfl rfl ?_
    refine w_load i_148_76 rfl rfl ?_
    refine w_ialdN (e := x) (v := (M 151 x)) i_148_77 hκ (⟨rfl, rfl, by decide⟩ : isAr 151 6) (by omega) (by decide) (rfl) ?_
    exact w_iret i_148_78 (.inl rfl) (k1 h1)
  · have h2 := h1
    by_cases h3 : wh = 1
    · refine w_table 79 i_148_35 (by rw [h3]; rfl) ?_
      refine w_load i_148_79 rfl rfl ?_
      refine w_getR 161 i_148_80 hκ (⟨rfl, by decide⟩ : isOb 134 7) rfl rfl ?_
      refine w_load i_148_83 rfl rfl ?_
      refine w_ialdN (e := x) (v := (M 161 x)) i_148_84 hκ (⟨rfl, rfl, by decide⟩ : isAr 161 6) (by omega) (by decide) (rfl) ?_
      exact w_iret i_148_85 (.inl rfl) (k2 h2 h3)
    · have h4 := h3
      by_cases h5 : wh = 2
      · refine w_table 86 i_148_35 (by rw [h5]; rfl) ?_
        refine w_load i_148_86 rfl rfl ?_
        refine w_getR 162 i_148_87 hκ (⟨rfl, by decide⟩ : isOb 134 7) rfl rfl ?_
        refine w_load i_148_90 rfl rfl ?_
        refine w_ialdN (e := x) (v := (M 162 x)) i_148_91 hκ (⟨rfl, rfl, by decide⟩ : isAr 162 6) (by omega) (by decide) (rfl) ?_
        exact w_iret i_148_92 (.inl rfl) (k3 h2 h4 h5)
      · have h6 := h5
        by_cases h7 : wh = 3
        · refine w_table 93 i_148_35 (by rw [h7]; rfl) ?_
          refine w_load i_148_93 rfl rfl ?_
          refine w_getR 163 i_148_94 hκ (⟨rfl, by decide⟩ : isOb 134 7) rfl rfl ?_
          refine w_load i_148_97 rfl rfl ?_
          refine w_ialdN (e := x) (v := (M 163 x)) i_148_98 hκ (⟨rfl, rfl, by decide⟩ : isAr 163 6) (by omega) (by decide) (rfl) ?_
          exact w_iret i_148_99 (.inl rfl) (k4 h2 h4 h6 h7)
        · have h8 := h7
          by_cases h9 : wh = 4
          · refine w_table 100 i_148_35 (by rw [h9]; rfl) ?_
            refine w_load i_148_100 rfl rfl ?_
            refine w_getR 164 i_148_101 hκ (⟨rfl, by decide⟩ : isOb 134 7) rfl rfl ?_
            refine w_load i_148_104 rfl rfl ?_
            refine w_ialdN (e := x) (v := (M 164 x)) i_148_105 hκ (⟨rfl, rfl, by decide⟩ : isAr 164 6) (by omega) (by decide) (rfl) ?_
            exact w_iret i_148_106 (.inl rfl) (k5 h2 h4 h6 h8 h9)
          · have h10 := h9
            by_cases h11 : wh = 5
            · refine w_table 107 i_148_35 (by rw [h11]; rfl) ?_
              refine w_load i_148_107 rfl rfl ?_
              refine w_getR 147 i_148_108 hκ (⟨rfl, by decide⟩ : isOb 134 7) rfl rfl ?_
              refine w_load i_148_111 rfl rfl ?_
              refine w_ialdN (e := x) (v := (M 147 x)) i_148_112 hκ (⟨rfl, rfl, by decide⟩ : isAr 147 6) (by omega) (by decide) (rfl) ?_
              exact w_iret i_148_113 (.inl rfl) (k6 h2 h4 h6 h8 h10 h11)
            · have h12 := h11
              refine w_table 114 i_148_35 (tg_148_35 h2 h4 h6 h8 h10 h12) ?_
              refine w_load i_148_114 rfl rfl ?_
              refine w_getR 149 i_148_115 hκ (⟨rfl, by decide⟩ : isOb 134 7) rfl rfl ?_
              refine w_load i_148_118 rfl rfl ?_
              refine w_ialdN (e := x) (v := (M 149 x)) i_148_119 hκ (⟨rfl, rfl, by decide⟩ : isAr 149 6) (by omega) (by decide) (rfl) ?_
              exact w_iret i_148_120 (.inl rfl) (k7 h2 h4 h6 h8 h10 h12)
theorem i_149_79 : ins 149 79 = some (.bipush 10, 81, 0, 0, 0, 10) := rfl
theorem i_149_81 : ins 149 81 = some (.iload_n 1, 82, 1, 0, 0, 0) := rfl
theorem i_149_82 : ins 149 82 = some (.imul, 83, 0, 0, 0, 0) := rfl
theorem i_149_83 : ins 149 83 = some (.iload_n 2, 84, 2, 0, 0, 0) := rfl
theorem i_149_84 : ins 149 84 = some (.iadd, 85, 0, 0, 0, 0) := rfl
theorem i_149_85 : ins 149 85 = some (.istore 5, 87, 5, 0, 0, 0) := rfl
theorem i_149_87 : ins 149 87 = some (.iload_n 3, 88, 3, 0, 0, 0) := rfl
theorem i_149_88 : ins 149 88 = some (.tableswitch 64 0 3 #[32, 40, 48, 56], 120, 0, 0, 0, 0) := rfl
theorem i_149_120 : ins 149 120 = some (.aload_n 0, 121, 0, 0, 0, 0) := rfl
theorem i_149_121 : ins 149 121 = some (.getfield 81, 124, 7, 27, 0, 0) := rfl
theorem i_149_124 : ins 149 124 = some (.iload 5, 126, 5, 0, 0, 0) := rfl
theorem i_149_126 : ins 149 126 = some (.iaload, 127, 0, 0, 0, 0) := rfl
theorem i_149_127 : ins 149 127 = some (.ireturn, 128, 0, 0, 0, 0) := rfl
theorem i_149_128 : ins 149 128 = some (.aload_n 0, 129, 0, 0, 0, 0) := rfl
theorem i_149_129 : ins 149 129 = some (.getfield 96, 132, 7, 32, 0, 0) := rfl
theorem i_149_132 : ins 149 132 = some (.iload 5, 134, 5, 0, 0, 0) := rfl
theorem i_149_134 : ins 149 134 = some (.iaload, 135, 0, 0, 0, 0) := rfl
theorem i_149_135 : ins 149 135 = some (.ireturn, 136, 0, 0, 0, 0) := rfl
theorem i_149_136 : ins 149 136 = some (.aload_n 0, 137, 0, 0, 0, 0) := rfl
theorem i_149_137 : ins 149 137 = some (.getfield 99, 140, 7, 33, 0, 0) := rfl
theorem i_149_140 : ins 149 140 = some (.iload 5, 142, 5, 0, 0, 0) := rfl
theorem i_149_142 : ins 149 142 = some (.iaload, 143, 0, 0, 0, 0) := rfl
theorem i_149_143 : ins 149 143 = some (.ireturn, 144, 0, 0, 0, 0) := rfl
theorem i_149_144 : ins 149 144 = some (.aload_n 0, 145, 0, 0, 0, 0) := rfl
theorem i_149_145 : ins 149 145 = some (.getfield 102, 148, 7, 34, 0, 0) := rfl
theorem i_149_148 : ins 149 148 = some (.iload 5, 150, 5, 0, 0, 0) := rfl
theorem i_149_150 : ins 149 150 = some (.iaload, 151, 0, 0, 0, 0) := rfl
theorem i_149_151 : ins 149 151 = some (.ireturn, 152, 0, 0, 0, 0) := rfl
theorem i_149_152 : ins 149 152 = some (.aload_n 0, 153, 0, 0, 0, 0) := rfl
theorem i_149_153 : ins 149 153 = some (.getfield 105, 156, 7, 35, 0, 0) := rfl
theorem i_149_156 : ins 149 156 = some (.iload 5, 158, 5, 0, 0, 0) := rfl
theorem i_149_158 : ins 149 158 = some (.iaload, 159, 0, 0, 0, 0) := rfl
theorem i_149_159 : ins 149 159 = some (.ireturn, 160, 0, 0, 0, 0) := rfl
theorem tg_149_88 {x : Int32} (h0 : ¬ x = 0) (h1 : ¬ x = 1) (h2 : ¬ x = 2) (h3 : ¬ x = 3) : tgtOk 88 (.tableswitch 64 0 3 #[32, 40, 48, 56]) x 152 = true := tgd (by have e0 : x.toInt ≠ 0 := fun e => h0 (Int32.toInt_inj.mp e); have e1 : x.toInt ≠ 1 := fun e => h1 (Int32.toInt_inj.mp e); have e2 : x.toInt ≠ 2 := fun e => h2 (Int32.toInt_inj.mp e); have e3 : x.toInt ≠ 3 := fun e => h3 (Int32.toInt_inj.mp e); omega) (by decide)
theorem S149_79 {Q : Ou → Prop} {M : Mem} {κ : Kp} (hκ : Rd κ) {x k : Nat} (hx : x < 6) (hk : k < 10) {wh : Int32}
    (k1 : wh = 0 → Q (.inl (some (.int (M 152 ((10 * x) + k)))), M, κ))
    (k2 : ¬ (wh = 0) → wh = 1 → Q (.inl (some (.int (M 157 ((10 * x) + k)))), M, κ))
    (k3 : ¬ (wh = 0) → ¬ (wh = 1) → wh = 2 → Q (.inl (some (.int (M 158 ((10 * x) + k)))), M, κ))
    (k4 : ¬ (wh = 0) → ¬ (wh = 1) → ¬ (wh = 2) → wh = 3 → Q (.inl (some (.int (M 159 ((10 * x) + k)))), M, κ))
    (k5 : ¬ (wh = 0) → ¬ (wh = 1) → ¬ (wh = 2) → ¬ (wh = 3) → Q (.inl (some (.int (M 160 ((10 * x) + k)))), M, κ))
    : RT 149 (79, [.ref 134, .int (nI x), .int (nI k), .int wh, UU, UU], [], M, κ) Q := by
  refine w_push i_149_79 rfl ?_
  refine w_load i_149_81 rfl rfl ?_
  refine w_bin (w := (nI (10 * x))) i_149_82 rfl (nI_mul 10 x) ?_
  refine w_load i_149_83 rfl rfl ?_
  refine w_bin (w := (nI ((10 * x) + k))) i_149_84 rfl (nI_add (10 * x) k) ?_
  refine w_store (l1 := [.ref 134, .int (nI x), .int (nI k), .int wh, UU, .int (nI ((10 * x) + k))]) i_149_85 rfl (Nat.le_of_ble_eq_true rfl) rfl ?_
  refine w_load i_149_87 rfl rfl ?_
  by_cases h1 : wh = 0
  · refine w_table 120 i_149_88 (by rw [h1]; rfl) ?_
    refine w_load i_149_120 rfl rfl ?_
    refine w_getR 152 i_149_121 hκ (⟨rfl, by decide⟩ : isOb 134 7) rfl rfl ?_
    refine w_load i_149_124 rfl rfl ?_
    refine w_ialdN (e := ((10 * x) + k)) (v := (M 152 ((10 * x) + k))) i_149_126 hκ (⟨rfl, rfl, by decide⟩ : isAr 152 60) (by omega) (by decide) (rfl) ?_
    exact w_iret i_149_127 (.inl rfl) (k1 h1)
  · have h2 := h1
    by_cases h3 : wh = 1
    · refine w_table 128 i_149_88 (by rw [h3]; rfl) ?_
      refine w_load i_149_128 rfl rfl ?_
      refine w_getR 157 i_149_129 hκ (⟨rfl, by decide⟩ : isOb 134 7) rfl rfl ?_
      refine w_load i_149_132 rfl rfl ?_
      refine w_ialdN (e := ((10 * x) + k)) (v := (M 157 ((10 * x) + k))) i_149_134 hκ (⟨rfl, rfl, by decide⟩ : isAr 157 60) (by omega) (by decide) (rfl) ?_
      exact w_iret i_149_135 (.inl rfl) (k2 h2 h3)
    · have h4 := h3
      by_cases h5 : wh = 2
      · refine w_table 136 i_149_88 (by rw [h5]; rfl) ?_
        refine w_load i_149_136 rfl rfl ?_
        refine w_getR 158 i_149_137 hκ (⟨rfl, by decide⟩ : isOb 134 7) rfl rfl ?_
        refine w_load i_149_140 rfl rfl ?_
        refine w_ialdN (e := ((10 * x) + k)) (v := (M 158 ((10 * x) + k))) i_149_142 hκ (⟨rfl, rfl, by decide⟩ : isAr 158 60) (by omega) (by decide) (rfl) ?_
        exact w_iret i_149_143 (.inl rfl) (k3 h2 h4 h5)
      · have h6 := h5
        by_cases h7 : wh = 3
        · refine w_table 144 i_149_88 (by rw [h7]; rfl) ?_
          refine w_load i_149_144 rfl rfl ?_
          refine w_getR 159 i_149_145 hκ (⟨rfl, by decide⟩ : isOb 134 7) rfl rfl ?_
          refine w_load i_149_148 rfl rfl ?_
          refine w_ialdN (e := ((10 * x) + k)) (v := (M 159 ((10 * x) + k))) i_149_150 hκ (⟨rfl, rfl, by decide⟩ : isAr 159 60) (by omega) (by decide) (rfl) ?_
          exact w_iret i_149_151 (.inl rfl) (k4 h2 h4 h6 h7)
        · have h8 := h7
          refine w_table 152 i_149_88 (tg_149_88 h2 h4 h6 h8) ?_
          refine w_load i_149_152 rfl rfl ?_
          refine w_getR 160 i_149_153 hκ (⟨rfl, by decide⟩ : isOb 134 7) rfl rfl ?_
          refine w_load i_149_156 rfl rfl ?_
          refine w_ialdN (e := ((10 * x) + k)) (v := (M 160 ((10 * x) + k))) i_149_158 hκ (⟨rfl, rfl, by decide⟩ : isAr 160 60) (by omega) (by decide) (rfl) ?_
          exact w_iret i_149_159 (.inl rfl) (k5 h2 h4 h6 h8)
theorem i_76_5 : ins 76 5 = some (.iload_n 2, 6, 2, 0, 0, 0) := rfl
theorem i_76_6 : ins 76 6 = some (.tableswitch 112 0 6 #[42, 52, 62, 72, 82, 92, 102], 48, 0, 0, 0, 0) := rfl
theorem i_76_48 : ins 76 48 = some (.aload_n 0, 49, 0, 0, 0, 0) := rfl
theorem i_76_49 : ins 76 49 = some (.getfield 22, 52, 6, 2, 0, 0) := rfl
theorem i_76_52 : ins 76 52 = some (.iload_n 1, 53, 1, 0, 0, 0) := rfl
theorem i_76_53 : ins 76 53 = some (.aaload, 54, 0, 0, 0, 0) := rfl
theorem i_76_54 : ins 76 54 = some (.getfield 101, 57, 0, 4, 0, 0) := rfl
theorem i_76_57 : ins 76 57 = some (.ireturn, 58, 0, 0, 0, 0) := rfl
theorem i_76_58 : ins 76 58 = some (.aload_n 0, 59, 0, 0, 0, 0) := rfl
theorem i_76_59 : ins 76 59 = some (.getfield 27, 62, 6, 3, 0, 0) := rfl
theorem i_76_62 : ins 76 62 = some (.iload_n 1, 63, 1, 0, 0, 0) := rfl
theorem i_76_63 : ins 76 63 = some (.aaload, 64, 0, 0, 0, 0) := rfl
theorem i_76_64 : ins 76 64 = some (.getfield 163, 67, 5, 0, 0, 0) := rfl
theorem i_76_67 : ins 76 67 = some (.ireturn, 68, 0, 0, 0, 0) := rfl
theorem i_76_68 : ins 76 68 = some (.aload_n 0, 69, 0, 0, 0, 0) := rfl
theorem i_76_69 : ins 76 69 = some (.getfield 27, 72, 6, 3, 0, 0) := rfl
theorem i_76_72 : ins 76 72 = some (.iload_n 1, 73, 1, 0, 0, 0) := rfl
theorem i_76_73 : ins 76 73 = some (.aaload, 74, 0, 0, 0, 0) := rfl
theorem i_76_74 : ins 76 74 = some (.getfield 166, 77, 5, 1, 0, 0) := rfl
theorem i_76_77 : ins 76 77 = some (.ireturn, 78, 0, 0, 0, 0) := rfl
theorem i_76_78 : ins 76 78 = some (.aload_n 0, 79, 0, 0, 0, 0) := rfl
theorem i_76_79 : ins 76 79 = some (.getfield 27, 82, 6, 3, 0, 0) := rfl
theorem i_76_82 : ins 76 82 = some (.iload_n 1, 83, 1, 0, 0, 0) := rfl
theorem i_76_83 : ins 76 83 = some (.aaload, 84, 0, 0, 0, 0) := rfl
theorem i_76_84 : ins 76 84 = some (.getfield 169, 87, 5, 2, 0, 0) := rfl
theorem i_76_87 : ins 76 87 = some (.ireturn, 88, 0, 0, 0, 0) := rfl
theorem i_76_88 : ins 76 88 = some (.aload_n 0, 89, 0, 0, 0, 0) := rfl
theorem i_76_89 : ins 76 89 = some (.getfield 27, 92, 6, 3, 0, 0) := rfl
theorem i_76_92 : ins 76 92 = some (.iload_n 1, 93, 1, 0, 0, 0) := rfl
theorem i_76_93 : ins 76 93 = some (.aaload, 94, 0, 0, 0, 0) := rfl
theorem i_76_94 : ins 76 94 = some (.getfield 172, 97, 5, 3, 0, 0) := rfl
theorem i_76_97 : ins 76 97 = some (.ireturn, 98, 0, 0, 0, 0) := rfl
theorem i_76_98 : ins 76 98 = some (.aload_n 0, 99, 0, 0, 0, 0) := rfl
theorem i_76_99 : ins 76 99 = some (.getfield 22, 102, 6, 2, 0, 0) := rfl
theorem i_76_102 : ins 76 102 = some (.iload_n 1, 103, 1, 0, 0, 0) := rfl
theorem i_76_103 : ins 76 103 = some (.aaload, 104, 0, 0, 0, 0) := rfl
theorem i_76_104 : ins 76 104 = some (.getfield 175, 107, 0, 0, 0, 0) := rfl
theorem i_76_107 : ins 76 107 = some (.ireturn, 108, 0, 0, 0, 0) := rfl
theorem i_76_108 : ins 76 108 = some (.aload_n 0, 109, 0, 0, 0, 0) := rfl
theorem i_76_109 : ins 76 109 = some (.getfield 22, 112, 6, 2, 0, 0) := rfl
theorem i_76_112 : ins 76 112 = some (.iload_n 1, 113, 1, 0, 0, 0) := rfl
theorem i_76_113 : ins 76 113 = some (.aaload, 114, 0, 0, 0, 0) := rfl
theorem i_76_114 : ins 76 114 = some (.getfield 178, 117, 0, 2, 0, 0) := rfl
theorem i_76_117 : ins 76 117 = some (.ireturn, 118, 0, 0, 0, 0) := rfl
theorem i_76_118 : ins 76 118 = some (.new 120, 121, 2, 1, 0, 0) := rfl
theorem tg_76_6 {x : Int32} (h0 : ¬ x = 0) (h1 : ¬ x = 1) (h2 : ¬ x = 2) (h3 : ¬ x = 3) (h4 : ¬ x = 4) (h5 : ¬ x = 5) (h6 : ¬ x = 6) : tgtOk 6 (.tableswitch 112 0 6 #[42, 52, 62, 72, 82, 92, 102]) x 118 = true := tgd (by have e0 : x.toInt ≠ 0 := fun e => h0 (Int32.toInt_inj.mp e); have e1 : x.toInt ≠ 1 := fun e => h1 (Int32.toInt_inj.mp e); have e2 : x.toInt ≠ 2 := fun e => h2 (Int32.toInt_inj.mp e); have e3 : x.toInt ≠ 3 := fun e => h3 (Int32.toInt_inj.mp e); have e4 : x.toInt ≠ 4 := fun e => h4 (Int32.toInt_inj.mp e); have e5 : x.toInt ≠ 5 := fun e => h5 (Int32.toInt_inj.mp e); have e6 : x.toInt ≠ 6 := fun e => h6 (Int32.toInt_inj.mp e); omega) (by decide)
theorem S76_5 {Q : Ou → Prop} {M : Mem} {κ : Kp} (hκ : Rd κ) {x n : Nat} {e : Int32} {t : Nat} (hx : x < 6) (hn : n ≤ 10) (hh0 : M (12 + 18 * x) 0 = e) (hh4 : M (12 + 18 * x) 4 = nI n) (hh2 : M (12 + 18 * x) 2 = nI t) {wh : Int32}
    (k1 : wh = 0 → Q (.inl (some (.int (nI n))), M, κ))
    (k2 : ¬ (wh = 0) → wh = 1 → Q (.inl (some (.int (M (19 + 18 * x) 0))), M, κ))
    (k3 : ¬ (wh = 0) → ¬ (wh = 1) → wh = 2 → Q (.inl (some (.int (M (19 + 18 * x) 1))), M, κ))
    (k4 : ¬ (wh = 0) → ¬ (wh = 1) → ¬ (wh = 2) → wh = 3 → Q (.inl (some (.int (M (19 + 18 * x) 2))), M, κ))
    (k5 : ¬ (wh = 0) → ¬ (wh = 1) → ¬ (wh = 2) → ¬ (wh = 3) → wh = 4 → Q (.inl (some (.int (M (19 + 18 * x) 3))), M, κ))
    (k6 : ¬ (wh = 0) → ¬ (wh = 1) → ¬ (wh = 2) → ¬ (wh = 3) → ¬ (wh = 4) → wh = 5 → Q (.inl (some (.int e)), M, κ))
    (k7 : ¬ (wh = 0) → ¬ (wh = 1) → ¬ (wh = 2) → ¬ (wh = 3) → ¬ (wh = 4) → ¬ (wh = 5) → wh = 6 → Q (.inl (some (.int (nI t))), M, κ))
    (k8 : ¬ (wh = 0) → ¬ (wh = 1) → ¬ (wh = 2) → ¬ (wh = 3) → ¬ (wh = 4) → ¬ (wh = 5) → ¬ (wh = 6) → Q (.inr 2, M, (κ.1, κ.2.1, κ.2.2.1, kN κ, kC κ + 1, kU κ + 6)))
    : RT 76 (5, [.ref 0, .int (nI x), .int wh], [], M, κ) Q := by
  refine w_load i_76_5 rfl rfl ?_
  by_cases h1 : wh = 0
  · refine w_table 48 i_76_6 (by rw [h1]; rfl) ?_
    refine w_load i_76_48 rfl rfl ?_
    refine w_getR 3 i_76_49 hκ (⟨rfl, by decide⟩ : isOb 0 6) rfl rfl ?_
    refine w_load i_76_52 rfl rfl ?_
    refine w_aaldN (e := x) (12 + 18 * x) i_76_53 hκ (⟨by decide, by decide⟩ : (kd 3 = 22 ∨ kd 3 = 23) ∧ 3 < 180) (by omega) rfl ?_
    refine w_getI (v := (nI n)) i_76_54 hκ (bl_ob (bl_b (by omega : x < 6))) rfl (hh4) ?_
    exact w_iret i_76_57 (.inl rfl) (k1 h1)
  · have h2 := h1
    by_cases h3 : wh = 1
    · refine w_table 58 i_76_6 (by rw [h3]; rfl) ?_
      refine w_load i_76_58 rfl rfl ?_
      refine w_getR 4 i_76_59 hκ (⟨rfl, by decide⟩ : isOb 0 6) rfl rfl ?_
      refine w_load i_76_62 rfl rfl ?_
      refine w_aaldN (e := x) (19 + 18 * x) i_76_63 hκ (⟨by decide, by decide⟩ : (kd 4 = 22 ∨ kd 4 = 23) ∧ 4 < 180) (by omega) rfl ?_
      refine w_getI (v := (M (19 + 18 * x) 0)) i_76_64 hκ (pl_ob (pl_of (by omega : x < 6))) rfl (rfl) ?_
      exact w_iret i_76_67 (.inl rfl) (k2 h2 h3)
    · have h4 := h3
      by_cases h5 : wh = 2
      · refine w_table 68 i_76_6 (by rw [h5]; rfl) ?_
        refine w_load i_76_68 rfl rfl ?_
        refine w_getR 4 i_76_69 hκ (⟨rfl, by decide⟩ : isOb 0 6) rfl rfl ?_
        refine w_load i_76_72 rfl rfl ?_
        refine w_aaldN (e := x) (19 + 18 * x) i_76_73 hκ (⟨by decide, by decide⟩ : (kd 4 = 22 ∨ kd 4 = 23) ∧ 4 < 180) (by omega) rfl ?_
        refine w_getI (v := (M (19 + 18 * x) 1)) i_76_74 hκ (pl_ob (pl_of (by omega : x < 6))) rfl (rfl) ?_
        exact w_iret i_76_77 (.inl rfl) (k3 h2 h4 h5)
      · have h6 := h5
        by_cases h7 : wh = 3
        · refine w_table 78 i_76_6 (by rw [h7]; rfl) ?_
          refine w_load i_76_78 rfl rfl ?_
          refine w_getR 4 i_76_79 hκ (⟨rfl, by decide⟩ : isOb 0 6) rfl rfl ?_
          refine w_load i_76_82 rfl rfl ?_
          refine w_aaldN (e := x) (19 + 18 * x) i_76_83 hκ (⟨by decide, by decide⟩ : (kd 4 = 22 ∨ kd 4 = 23) ∧ 4 < 180) (by omega) rfl ?_
          refine w_getI (v := (M (19 + 18 * x) 2)) i_76_84 hκ (pl_ob (pl_of (by omega : x < 6))) rfl (rfl) ?_
          exact w_iret i_76_87 (.inl rfl) (k4 h2 h4 h6 h7)
        · have h8 := h7
          by_cases h9 : wh = 4
          · refine w_table 88 i_76_6 (by rw [h9]; rfl) ?_
            refine w_load i_76_88 rfl rfl ?_
            refine w_getR 4 i_76_89 hκ (⟨rfl, by decide⟩ : isOb 0 6) rfl rfl ?_
            refine w_load i_76_92 rfl rfl ?_
            refine w_aaldN (e := x) (19 + 18 * x) i_76_93 hκ (⟨by decide, by decide⟩ : (kd 4 = 22 ∨ kd 4 = 23) ∧ 4 < 180) (by omega) rfl ?_
            refine w_getI (v := (M (19 + 18 * x) 3)) i_76_94 hκ (pl_ob (pl_of (by omega : x < 6))) rfl (rfl) ?_
            exact w_iret i_76_97 (.inl rfl) (k5 h2 h4 h6 h8 h9)
          · have h10 := h9
            by_cases h11 : wh = 5
            · refine w_table 98 i_76_6 (by rw [h11]; rfl) ?_
              refine w_load i_76_98 rfl rfl ?_
              refine w_getR 3 i_76_99 hκ (⟨rfl, by decide⟩ : isOb 0 6) rfl rfl ?_
              refine w_load i_76_102 rfl rfl ?_
              refine w_aaldN (e := x) (12 + 18 * x) i_76_103 hκ (⟨by decide, by decide⟩ : (kd 3 = 22 ∨ kd 3 = 23) ∧ 3 < 180) (by omega) rfl ?_
              refine w_getI (v := e) i_76_104 hκ (bl_ob (bl_b (by omega : x < 6))) rfl (hh0) ?_
              exact w_iret i_76_107 (.inl rfl) (k6 h2 h4 h6 h8 h10 h11)
            · have h12 := h11
              by_cases h13 : wh = 6
              · refine w_table 108 i_76_6 (by rw [h13]; rfl) ?_
                refine w_load i_76_108 rfl rfl ?_
                refine w_getR 3 i_76_109 hκ (⟨rfl, by decide⟩ : isOb 0 6) rfl rfl ?_
                refine w_load i_76_112 rfl rfl ?_
                refine w_aaldN (e := x) (12 + 18 * x) i_76_113 hκ (⟨by decide, by decide⟩ : (kd 3 = 22 ∨ kd 3 = 23) ∧ 3 < 180) (by omega) rfl ?_
                refine w_getI (v := (nI t)) i_76_114 hκ (bl_ob (bl_b (by omega : x < 6))) rfl (hh2) ?_
                exact w_iret i_76_117 (.inl rfl) (k7 h2 h4 h6 h8 h10 h12 h13)
              · have h14 := h13
                refine w_table 118 i_76_6 (tg_76_6 h2 h4 h6 h8 h10 h12 h14) ?_
                exact w_throw i_76_118 rfl hκ (by decide) rfl (Nat.le_of_ble_eq_true rfl) (k8 h2 h4 h6 h8 h10 h12 h14)
theorem i_77_5 : ins 77 5 = some (.iload_n 2, 6, 2, 0, 0, 0) := rfl
theorem i_77_6 : ins 77 6 = some (.ifCond .lt 16, 9, 22, 0, 0, 0) := rfl
theorem i_77_9 : ins 77 9 = some (.iload_n 2, 10, 2, 0, 0, 0) := rfl
theorem i_77_10 : ins 77 10 = some (.aload_n 0, 11, 0, 0, 0, 0) := rfl
theorem i_77_11 : ins 77 11 = some (.getfield 22, 14, 6, 2, 0, 0) := rfl
theorem i_77_14 : ins 77 14 = some (.iload_n 1, 15, 1, 0, 0, 0) := rfl
theorem i_77_15 : ins 77 15 = some (.aaload, 16, 0, 0, 0, 0) := rfl
theorem i_77_16 : ins 77 16 = some (.getfield 101, 19, 0, 4, 0, 0) := rfl
theorem i_77_19 : ins 77 19 = some (.if_icmp .lt 11, 22, 30, 0, 0, 0) := rfl
theorem i_77_22 : ins 77 22 = some (.new 181, 25, 4, 1, 0, 0) := rfl
theorem i_77_30 : ins 77 30 = some (.iload_n 3, 31, 3, 0, 0, 0) := rfl
theorem i_77_31 : ins 77 31 = some (.tableswitch 93 0 4 #[33, 45, 57, 69, 81], 64, 0, 0, 0, 0) := rfl
theorem i_77_64 : ins 77 64 = some (.aload_n 0, 65, 0, 0, 0, 0) := rfl
theorem i_77_65 : ins 77 65 = some (.getfield 22, 68, 6, 2, 0, 0) := rfl
theorem i_77_68 : ins 77 68 = some (.iload_n 1, 69, 1, 0, 0, 0) := rfl
theorem i_77_69 : ins 77 69 = some (.aaload, 70, 0, 0, 0, 0) := rfl
theorem i_77_70 : ins 77 70 = some (.getfield 184, 73, 0, 6, 0, 0) := rfl
theorem i_77_73 : ins 77 73 = some (.iload_n 2, 74, 2, 0, 0, 0) := rfl
theorem i_77_74 : ins 77 74 = some (.iaload, 75, 0, 0, 0, 0) := rfl
theorem i_77_75 : ins 77 75 = some (.ireturn, 76, 0, 0, 0, 0) := rfl
theorem i_77_76 : ins 77 76 = some (.aload_n 0, 77, 0, 0, 0, 0) := rfl
theorem i_77_77 : ins 77 77 = some (.getfield 22, 80, 6, 2, 0, 0) := rfl
theorem i_77_80 : ins 77 80 = some (.iload_n 1, 81, 1, 0, 0, 0) := rfl
theorem i_77_81 : ins 77 81 = some (.aaload, 82, 0, 0, 0, 0) := rfl
theorem i_77_82 : ins 77 82 = some (.getfield 187, 85, 0, 11, 0, 0) := rfl
theorem i_77_85 : ins 77 85 = some (.iload_n 2, 86, 2, 0, 0, 0) := rfl
theorem i_77_86 : ins 77 86 = some (.iaload, 87, 0, 0, 0, 0) := rfl
theorem i_77_87 : ins 77 87 = some (.ireturn, 88, 0, 0, 0, 0) := rfl
theorem i_77_88 : ins 77 88 = some (.aload_n 0, 89, 0, 0, 0, 0) := rfl
theorem i_77_89 : ins 77 89 = some (.getfield 27, 92, 6, 3, 0, 0) := rfl
theorem i_77_92 : ins 77 92 = some (.iload_n 1, 93, 1, 0, 0, 0) := rfl
theorem i_77_93 : ins 77 93 = some (.aaload, 94, 0, 0, 0, 0) := rfl
theorem i_77_94 : ins 77 94 = some (.getfield 190, 97, 5, 5, 0, 0) := rfl
theorem i_77_97 : ins 77 97 = some (.iload_n 2, 98, 2, 0, 0, 0) := rfl
theorem i_77_98 : ins 77 98 = some (.iaload, 99, 0, 0, 0, 0) := rfl
theorem i_77_99 : ins 77 99 = some (.ireturn, 100, 0, 0, 0, 0) := rfl
theorem i_77_100 : ins 77 100 = some (.aload_n 0, 101, 0, 0, 0, 0) := rfl
theorem i_77_101 : ins 77 101 = some (.getfield 27, 104, 6, 3, 0, 0) := rfl
theorem i_77_104 : ins 77 104 = some (.iload_n 1, 105, 1, 0, 0, 0) := rfl
theorem i_77_105 : ins 77 105 = some (.aaload, 106, 0, 0, 0, 0) := rfl
theorem i_77_106 : ins 77 106 = some (.getfield 193, 109, 5, 6, 0, 0) := rfl
theorem i_77_109 : ins 77 109 = some (.iload_n 2, 110, 2, 0, 0, 0) := rfl
theorem i_77_110 : ins 77 110 = some (.iaload, 111, 0, 0, 0, 0) := rfl
theorem i_77_111 : ins 77 111 = some (.ireturn, 112, 0, 0, 0, 0) := rfl
theorem i_77_112 : ins 77 112 = some (.aload_n 0, 113, 0, 0, 0, 0) := rfl
theorem i_77_113 : ins 77 113 = some (.getfield 27, 116, 6, 3, 0, 0) := rfl
theorem i_77_116 : ins 77 116 = some (.iload_n 1, 117, 1, 0, 0, 0) := rfl
theorem i_77_117 : ins 77 117 = some (.aaload, 118, 0, 0, 0, 0) := rfl
theorem i_77_118 : ins 77 118 = some (.getfield 196, 121, 5, 7, 0, 0) := rfl
theorem i_77_121 : ins 77 121 = some (.iload_n 2, 122, 2, 0, 0, 0) := rfl
theorem i_77_122 : ins 77 122 = some (.iaload, 123, 0, 0, 0, 0) := rfl
theorem i_77_123 : ins 77 123 = some (.ireturn, 124, 0, 0, 0, 0) := rfl
theorem i_77_124 : ins 77 124 = some (.new 120, 127, 2, 1, 0, 0) := rfl
theorem tg_77_31 {x : Int32} (h0 : ¬ x = 0) (h1 : ¬ x = 1) (h2 : ¬ x = 2) (h3 : ¬ x = 3) (h4 : ¬ x = 4) : tgtOk 31 (.tableswitch 93 0 4 #[33, 45, 57, 69, 81]) x 124 = true := tgd (by have e0 : x.toInt ≠ 0 := fun e => h0 (Int32.toInt_inj.mp e); have e1 : x.toInt ≠ 1 := fun e => h1 (Int32.toInt_inj.mp e); have e2 : x.toInt ≠ 2 := fun e => h2 (Int32.toInt_inj.mp e); have e3 : x.toInt ≠ 3 := fun e => h3 (Int32.toInt_inj.mp e); have e4 : x.toInt ≠ 4 := fun e => h4 (Int32.toInt_inj.mp e); omega) (by decide)
theorem S77_5 {Q : Ou → Prop} {M : Mem} {κ : Kp} (hκ : Rd κ) {x n : Nat} (hx : x < 6) (hn : n ≤ 10) (hh4 : M (12 + 18 * x) 4 = nI n) {kk : Int32} {wh : Int32}
    (o1 : ¬ (kk < 0) → kk < (nI n) → wh = 0 → vp_in kk 10)
    (o2 : ¬ (kk < 0) → kk < (nI n) → ¬ (wh = 0) → wh = 1 → vp_in kk 10)
    (o3 : ¬ (kk < 0) → kk < (nI n) → ¬ (wh = 0) → ¬ (wh = 1) → wh = 2 → vp_in kk 10)
    (o4 : ¬ (kk < 0) → kk < (nI n) → ¬ (wh = 0) → ¬ (wh = 1) → ¬ (wh = 2) → wh = 3 → vp_in kk 10)
    (o5 : ¬ (kk < 0) → kk < (nI n) → ¬ (wh = 0) → ¬ (wh = 1) → ¬ (wh = 2) → ¬ (wh = 3) → wh = 4 → vp_in kk 10)
    (k1 : ((kk < 0) ∨ ((¬ (kk < 0)) ∧ (¬ (kk < (nI n))))) → Q (.inr 4, M, (κ.1, κ.2.1, κ.2.2.1, kN κ, kC κ + 1, kU κ + 6)))
    (k2 : ¬ (kk < 0) → kk < (nI n) → wh = 0 → Q (.inl (some (.int (M ((12 + 18 * x) + 1) kk.toNatClampNeg))), M, κ))
    (k3 : ¬ (kk < 0) → kk < (nI n) → ¬ (wh = 0) → wh = 1 → Q (.inl (some (.int (M ((12 + 18 * x) + 6) kk.toNatClampNeg))), M, κ))
    (k4 : ¬ (kk < 0) → kk < (nI n) → ¬ (wh = 0) → ¬ (wh = 1) → wh = 2 → Q (.inl (some (.int (M ((19 + 18 * x) + 1) kk.toNatClampNeg))), M, κ))
    (k5 : ¬ (kk < 0) → kk < (nI n) → ¬ (wh = 0) → ¬ (wh = 1) → ¬ (wh = 2) → wh = 3 → Q (.inl (some (.int (M ((19 + 18 * x) + 2) kk.toNatClampNeg))), M, κ))
    (k6 : ¬ (kk < 0) → kk < (nI n) → ¬ (wh = 0) → ¬ (wh = 1) → ¬ (wh = 2) → ¬ (wh = 3) → wh = 4 → Q (.inl (some (.int (M ((19 + 18 * x) + 3) kk.toNatClampNeg))), M, κ))
    (k7 : ¬ (kk < 0) → kk < (nI n) → ¬ (wh = 0) → ¬ (wh = 1) → ¬ (wh = 2) → ¬ (wh = 3) → ¬ (wh = 4) → Q (.inr 2, M, (κ.1, κ.2.1, κ.2.2.1, kN κ, kC κ + 1, kU κ + 6)))
    : RT 77 (5, [.ref 0, .int (nI x), .int kk, .int wh], [], M, κ) Q := by
  refine w_load i_77_5 rfl rfl ?_
  have K1 : ((kk < 0) ∨ ((¬ (kk < 0)) ∧ (¬ (kk < (nI n))))) → RT 77 (22, [.ref 0, .int (nI x), .int kk, .int wh], [], M, κ) Q := by
    intro h2
    exact w_throw i_77_22 rfl hκ (by decide) rfl (Nat.le_of_ble_eq_true rfl) (k1 h2)
  refine w_if0 (kk < 0) i_77_6 cI0_lt ?_ ?_
  · intro h3
    exact (by first | exact (K1 (.inl h3)) | (have K9 := K1 (.inl h3); simp only [↓if_pos h3] at K9 ⊢; exact (K9)))
  · intro h4
    refine w_load i_77_9 rfl rfl ?_
    refine w_load i_77_10 rfl rfl ?_
    refine w_getR 3 i_77_11 hκ (⟨rfl, by decide⟩ : isOb 0 6) rfl rfl ?_
    refine w_load i_77_14 rfl rfl ?_
    refine w_aaldN (e := x) (12 + 18 * x) i_77_15 hκ (⟨by decide, by decide⟩ : (kd 3 = 22 ∨ kd 3 = 23) ∧ 3 < 180) (by omega) rfl ?_
    refine w_getI (v := (nI n)) i_77_16 hκ (bl_ob (bl_b (by omega : x < 6))) rfl (hh4) ?_
    refine w_if2 (kk < (nI n)) i_77_19 cI_lt ?_ ?_
    · intro h5
      refine w_load i_77_30 rfl rfl ?_
      by_cases h6 : wh = 0
      · refine w_table 64 i_77_31 (by rw [h6]; rfl) ?_
        refine w_load i_77_64 rfl rfl ?_
        refine w_getR 3 i_77_65 hκ (⟨rfl, by decide⟩ : isOb 0 6) rfl rfl ?_
        refine w_load i_77_68 rfl rfl ?_
        refine w_aaldN (e := x) (12 + 18 * x) i_77_69 hκ (⟨by decide, by decide⟩ : (kd 3 = 22 ∨ kd 3 = 23) ∧ 3 < 180) (by omega) rfl ?_
        refine w_getR ((12 + 18 * x) + 1) i_77_70 hκ (bl_ob (bl_b (by omega : x < 6))) rfl rfl ?_
        refine w_load i_77_73 rfl rfl ?_
        refine w_iald (v := (M ((12 + 18 * x) + 1) kk.toNatClampNeg)) i_77_74 hκ (bl_ar (bl_b (by omega : x < 6)) 1 (by decide)) (o1 h4 h5 h6) (rfl) ?_
        exact w_iret i_77_75 (.inl rfl) (k2 h4 h5 h6)
      · have h7 := h6
        by_cases h8 : wh = 1
        · refine w_table 76 i_77_31 (by rw [h8]; rfl) ?_
          refine w_load i_77_76 rfl rfl ?_
          refine w_getR 3 i_77_77 hκ (⟨rfl, by decide⟩ : isOb 0 6) rfl rfl ?_
          refine w_load i_77_80 rfl rfl ?_
          refine w_aaldN (e := x) (12 + 18 * x) i_77_81 hκ (⟨by decide, by decide⟩ : (kd 3 = 22 ∨ kd 3 = 23) ∧ 3 < 180) (by omega) rfl ?_
          refine w_getR ((12 + 18 * x) + 6) i_77_82 hκ (bl_ob (bl_b (by omega : x < 6))) rfl rfl ?_
          refine w_load i_77_85 rfl rfl ?_
          refine w_iald (v := (M ((12 + 18 * x) + 6) kk.toNatClampNeg)) i_77_86 hκ (bl_ar (bl_b (by omega : x < 6)) 6 (by decide)) (o2 h4 h5 h7 h8) (rfl) ?_
          exact w_iret i_77_87 (.inl rfl) (k3 h4 h5 h7 h8)
        · have h9 := h8
          by_cases h10 : wh = 2
          · refine w_table 88 i_77_31 (by rw [h10]; rfl) ?_
            refine w_load i_77_88 rfl rfl ?_
            refine w_getR 4 i_77_89 hκ (⟨rfl, by decide⟩ : isOb 0 6) rfl rfl ?_
            refine w_load i_77_92 rfl rfl ?_
            refine w_aaldN (e := x) (19 + 18 * x) i_77_93 hκ (⟨by decide, by decide⟩ : (kd 4 = 22 ∨ kd 4 = 23) ∧ 4 < 180) (by omega) rfl ?_
            refine w_getR ((19 + 18 * x) + 1) i_77_94 hκ (pl_ob (pl_of (by omega : x < 6))) rfl rfl ?_
            refine w_load i_77_97 rfl rfl ?_
            refine w_iald (v := (M ((19 + 18 * x) + 1) kk.toNatClampNeg)) i_77_98 hκ (pl_ar (pl_of (by omega : x < 6)) 1 (by decide)) (o3 h4 h5 h7 h9 h10) (rfl) ?_
            exact w_iret i_77_99 (.inl rfl) (k4 h4 h5 h7 h9 h10)
          · have h11 := h10
            by_cases h12 : wh = 3
            · refine w_table 100 i_77_31 (by rw [h12]; rfl) ?_
              refine w_load i_77_100 rfl rfl ?_
              refine w_getR 4 i_77_101 hκ (⟨rfl, by decide⟩ : isOb 0 6) rfl rfl ?_
              refine w_load i_77_104 rfl rfl ?_
              refine w_aaldN (e := x) (19 + 18 * x) i_77_105 hκ (⟨by decide, by decide⟩ : (kd 4 = 22 ∨ kd 4 = 23) ∧ 4 < 180) (by omega) rfl ?_
              refine w_getR ((19 + 18 * x) + 2) i_77_106 hκ (pl_ob (pl_of (by omega : x < 6))) rfl rfl ?_
              refine w_load i_77_109 rfl rfl ?_
              refine w_iald (v := (M ((19 + 18 * x) + 2) kk.toNatClampNeg)) i_77_110 hκ (pl_ar (pl_of (by omega : x < 6)) 2 (by decide)) (o4 h4 h5 h7 h9 h11 h12) (rfl) ?_
              exact w_iret i_77_111 (.inl rfl) (k5 h4 h5 h7 h9 h11 h12)
            · have h13 := h12
              by_cases h14 : wh = 4
              · refine w_table 112 i_77_31 (by rw [h14]; rfl) ?_
                refine w_load i_77_112 rfl rfl ?_
                refine w_getR 4 i_77_113 hκ (⟨rfl, by decide⟩ : isOb 0 6) rfl rfl ?_
                refine w_load i_77_116 rfl rfl ?_
                refine w_aaldN (e := x) (19 + 18 * x) i_77_117 hκ (⟨by decide, by decide⟩ : (kd 4 = 22 ∨ kd 4 = 23) ∧ 4 < 180) (by omega) rfl ?_
                refine w_getR ((19 + 18 * x) + 3) i_77_118 hκ (pl_ob (pl_of (by omega : x < 6))) rfl rfl ?_
                refine w_load i_77_121 rfl rfl ?_
                refine w_iald (v := (M ((19 + 18 * x) + 3) kk.toNatClampNeg)) i_77_122 hκ (pl_ar (pl_of (by omega : x < 6)) 3 (by decide)) (o5 h4 h5 h7 h9 h11 h13 h14) (rfl) ?_
                exact w_iret i_77_123 (.inl rfl) (k6 h4 h5 h7 h9 h11 h13 h14)
              · have h15 := h14
                refine w_table 124 i_77_31 (tg_77_31 h7 h9 h11 h13 h15) ?_
                exact w_throw i_77_124 rfl hκ (by decide) rfl (Nat.le_of_ble_eq_true rfl) (k7 h4 h5 h7 h9 h11 h13 h15)
    · intro h17
      exact (by first | exact (K1 (.inr ⟨h4, h17⟩)) | (have K9 := K1 (.inr ⟨h4, h17⟩); simp only [↓if_neg h4, ↓if_neg h17] at K9 ⊢; exact (K9)))
variable {Q : Ou → Prop} {M M0 : Mem} {κ : Kp}
section SH
variable {g : Gs} {mp : Mp} {cf : Bool} {tu : Nat} {tr : Bool} {r : Rs} {M' : Mem} {xx kk wh : Int32}
/-- a block that may be asked for -/
def okX (g : Gs) (xx : Int32) : Bool := decide (0 ≤ xx.toInt ∧ xx.toInt < gN g) && !(s1 g).2.2.2.1 xx.toInt.toNat
def askC (cf ok th kw : Bool) : Nat := if cf = true then (if ok = true then (if th = true then (if kw = true then 0 else 3) else 2) else 2) else 1
theorem okX_iff : okX g xx = true ↔ (0 ≤ xx.toInt ∧ xx.toInt < gN g) ∧ (s1 g).2.2.2.1 xx.toInt.toNat = false := by
  unfold okX
  rw [Bool.and_eq_true, decide_eq_true_iff]
  cases (s1 g).2.2.2.1 xx.toInt.toNat <;> simp
theorem vp6 (h : 0 ≤ xx.toInt ∧ xx.toInt < 6) : vp_in xx 6 := fun z => z.elim (fun y => by rw [ltI, c0] at y; omega) (fun y => by
  have e : xx.toNatClampNeg = xx.toInt.toNat := rfl
  rw [e] at y
  omega)
theorem vp10 (h : 0 ≤ xx.toInt ∧ xx.toInt < 10) : vp_in xx 10 := fun z => z.elim (fun y => by rw [ltI, c0] at y; omega) (fun y => by
  have e : xx.toNatClampNeg = xx.toInt.toNat := rfl
  rw [e] at y
  omega)
theorem F80 (hκ : Rd κ) (hg : GOk g) (hI : CI g mp cf tu tr r M) (K0 : cf = false → Q (.inr 1, M, kT κ)) (K1 : cf = true → okX g xx = false → Q (.inr 4, M, kT κ)) (K2 : cf = true → okX g xx = true → Q (.inl none, M, κ)) : RT 80 (0, entL 80 [.ref 0, .int xx], [], M, κ) Q := by
  obtain ⟨o, o2, h1, h2, h3, h4, h5, h6', h7, h8, h9, ha, hb, hc⟩ := hI
  have h6 := hg.1
  have e0 : xx < 0 ↔ xx.toInt < 0 := by rw [ltI, c0]
  have e1 : xx < nI (gN g) ↔ xx.toInt < gN g := by rw [ltI, nI_toInt (by omega)]
  have ecl : xx.toNatClampNeg = xx.toInt.toNat := rfl
  refine S80_0 hκ hg.1 h6'.1 h8 (fun _ a b => vp6 (by rw [e0] at a; rw [e1] at b; omega)) (fun c a => K1 c ?_) (fun c a b d => K2 c ?_) (fun a => K0 (by cases cf; rfl; exact absurd rfl a))
  · cases q : okX g xx with
    | false => rfl
    | true =>
      obtain ⟨q1, q2⟩ := okX_iff.mp q
      have hB := (hc c).2.2.1 xx.toInt.toNat (by omega)
      rw [ecl, hB.2.2.2.2.2.1, q2, e0, e1] at a
      rcases a with a | ⟨_, _, a⟩ | ⟨_, a⟩
      · omega
      · exact absurd (by decide) a
      · omega
  · rw [e0] at a
    rw [e1] at b
    have hB := (hc c).2.2.1 xx.toInt.toNat (by omega)
    rw [ecl, hB.2.2.2.2.2.1] at d
    refine okX_iff.mpr ⟨by omega, ?_⟩
    cases w : (s1 g).2.2.2.1 xx.toInt.toNat with
    | false => rfl
    | true => rw [w] at d; exact absurd d (by decide)
theorem c147 (hκ : Rd κ) (hg : GOk g) (hI : MI g mp cf tu tr r M) {th kw : Bool} : Run 147 (0, entL 147 [.ref 134, .int kk, .int (bI th), .int (bI kw)], [], M, κ) (.inl (some (.int (nI (askC cf (okX g kk) th kw)))), M, κ) := by
  obtain ⟨h1, h2, h3, h4, h5⟩ := hI
  have h6 := hg.1
  cases cf with
  | false => exact RT_run (N147_0 hκ h3 rfl)
  | true =>
    obtain ⟨m1, m2, m3⟩ := h5 rfl
    have hz : (0 : Int32).toInt = 0 := c0
    have eo : outR kk 0 (nI (gN g) - 1) = true ↔ ¬ (0 ≤ kk.toInt ∧ kk.toInt < gN g) := by
      rw [outR_inR]
      have e : inR 0 kk (nI (gN g) - 1) = true ↔ 0 ≤ kk.toInt ∧ kk.toInt < gN g := by
        rw [inR_iff, c0, l_sub (by rw [nI_toInt (by omega)]; omega) (by decide), nI_toInt (by omega), t1]
        omega
      cases q : inR 0 kk (nI (gN g) - 1) with
      | false =>
        rw [q] at e
        exact ⟨fun _ z => Bool.noConfusion (e.mpr z), fun _ => rfl⟩
      | true =>
        rw [q] at e
        exact ⟨fun z => (by cases z), fun z => absurd (e.mp rfl) z⟩
    have ecl : kk.toNatClampNeg = kk.toInt.toNat := rfl
    refine RT_run (S147_0 hκ hg.1 m1 h3 (fun _ a => ?_) ?_)
    · rw [if_neg a]
      rw [eo] at a
      exact vp6 (by omega)
    · by_cases q : outR kk 0 (nI (gN g) - 1) = true
      · have ok : okX g kk = false := by
          cases w : okX g kk with
          | false => rfl
          | true => exact absurd (okX_iff.mp w).1 (eo.mp q)
        rw [if_pos rfl, if_pos q, ok]
        rfl
      · have q' : 0 ≤ kk.toInt ∧ kk.toInt < gN g := Classical.byContradiction fun z => q (eo.mpr z)
        have hB := (m2 kk.toInt.toNat (by omega)).2.2.2.2.2.1
        rw [if_pos rfl, if_neg q, if_neg q, ecl, hB]
        cases w : (s1 g).2.2.2.1 kk.toInt.toNat with
        | true =>
          have ok : okX g kk = false := by
            cases w' : okX g kk with
            | false => rfl
            | true => exact absurd (okX_iff.mp w').2 (by rw [w]; decide)
          rw [ok, if_neg (by decide)]
          rfl
        | false =>
          rw [okX_iff.mpr ⟨q', w⟩, if_pos (by decide)]
          rfl
/-- shape -/
def anS (M : Mem) (g : Gs) (x : Nat) (wh : Int32) : Int32 := if wh = 0 then nI ((s1 g).2.2.1 x) else if wh = 1 then M (19 + 18 * x) 0 else if wh = 2 then M (19 + 18 * x) 1 else if wh = 3 then M (19 + 18 * x) 2 else if wh = 4 then M (19 + 18 * x) 3 else if wh = 5 then (s1 g).1 x else nI ((s1 g).2.1 x)
def anP (M : Mem) (g : Gs) (x k : Nat) (wh : Int32) : Int32 := if wh = 0 then (s1 g).2.2.2.2 x 0 k else if wh = 1 then (s1 g).2.2.2.2 x 5 k else if wh = 2 then M (19 + 18 * x + 1) k else if wh = 3 then M (19 + 18 * x + 2) k else M (19 + 18 * x + 3) k
theorem sw6 {x : Int32} : inR 0 x 6 = true ↔ x = 0 ∨ x = 1 ∨ x = 2 ∨ x = 3 ∨ x = 4 ∨ x = 5 ∨ x = 6 := by
  rw [inR_iff, c0, show (6 : Int32).toInt = 6 by decide]
  refine ⟨fun h => ?_, fun h => ?_⟩
  · have : x.toInt = 0 ∨ x.toInt = 1 ∨ x.toInt = 2 ∨ x.toInt = 3 ∨ x.toInt = 4 ∨ x.toInt = 5 ∨ x.toInt = 6 := by omega
    rcases this with e | e | e | e | e | e | e
    · exact .inl (Int32.toInt_inj.mp (e.trans c0.symm))
    · exact .inr (.inl (Int32.toInt_inj.mp (e.trans t1.symm)))
    · exact .inr (.inr (.inl (Int32.toInt_inj.mp (e.trans (show (2 : Int32).toInt = 2 by decide).symm))))
    · exact .inr (.inr (.inr (.inl (Int32.toInt_inj.mp (e.trans (show (3 : Int32).toInt = 3 by decide).symm)))))
    · exact .inr (.inr (.inr (.inr (.inl (Int32.toInt_inj.mp (e.trans (show (4 : Int32).toInt = 4 by decide).symm))))))
    · exact .inr (.inr (.inr (.inr (.inr (.inl (Int32.toInt_inj.mp (e.trans (show (5 : Int32).toInt = 5 by decide).symm)))))))
    · exact .inr (.inr (.inr (.inr (.inr (.inr (Int32.toInt_inj.mp (e.trans (show (6 : Int32).toInt = 6 by decide).symm)))))))
  · rcases h with e | e | e | e | e | e | e <;> rw [e] <;> decide
theorem sw4 {x : Int32} : inR 0 x 4 = true ↔ x = 0 ∨ x = 1 ∨ x = 2 ∨ x = 3 ∨ x = 4 := by
  rw [inR_iff, c0, show (4 : Int32).toInt = 4 by decide]
  refine ⟨fun h => ?_, fun h => ?_⟩
  · have : x.toInt = 0 ∨ x.toInt = 1 ∨ x.toInt = 2 ∨ x.toInt = 3 ∨ x.toInt = 4 := by omega
    rcases this with e | e | e | e | e
    · exact .inl (Int32.toInt_inj.mp (e.trans c0.symm))
    · exact .inr (.inl (Int32.toInt_inj.mp (e.trans t1.symm)))
    · exact .inr (.inr (.inl (Int32.toInt_inj.mp (e.trans (show (2 : Int32).toInt = 2 by decide).symm))))
    · exact .inr (.inr (.inr (.inl (Int32.toInt_inj.mp (e.trans (show (3 : Int32).toInt = 3 by decide).symm)))))
    · exact .inr (.inr (.inr (.inr (Int32.toInt_inj.mp (e.trans (show (4 : Int32).toInt = 4 by decide).symm)))))
  · rcases h with e | e | e | e | e <;> rw [e] <;> decide
theorem F76 (hκ : Rd κ) (hg : GOk g) (hI : CI g mp cf tu tr r M) (K1 : cf = false → Q (.inr 1, M, kT κ)) (K2 : cf = true → okX g xx = false → Q (.inr 4, M, kT κ)) (K3 : cf = true → okX g xx = true → inR 0 wh 6 = false → Q (.inr 2, M, kT κ)) (K4 : cf = true → okX g xx = true → inR 0 wh 6 = true → Q (.inl (some (.int (anS M g xx.toInt.toNat wh))), M, κ)) : RT 76 (0, entL 76 [.ref 0, .int xx, .int wh], [], M, κ) Q := by
  refine S76_0 hκ (F80 hκ hg hI (fun a => .inr ⟨_, _, _, rfl, K1 a⟩) (fun a b => .inr ⟨_, _, _, rfl, K2 a b⟩) (fun a b => .inl ⟨_, _, _, rfl, ?_⟩))
  obtain ⟨o, o2, h1, h2, h3, h4, h5, h6', h7, h8, h9, ha, hb, hc⟩ := hI
  obtain ⟨q1, q2⟩ := okX_iff.mp b
  have h6 := hg.1
  obtain ⟨d0, d1, d2, d3, d4, d5, d6⟩ := (hc a).2.2.1 xx.toInt.toNat (by omega)
  have hs := (SIv1 hg (hc a).2.1).1 xx.toInt.toNat (by omega)
  have ex : xx = nI xx.toInt.toNat := (nI_tn q1.1).symm
  have hx6 : xx.toInt.toNat < 6 := by omega
  have K4' : inR 0 wh 6 = true → Q (.inl (some (.int (anS M g xx.toInt.toNat wh))), M, κ) := K4 a b
  have K3' := K3 a b
  clear K1 K2 K3 K4
  generalize xx.toInt.toNat = x at *
  rw [ex]
  unfold anS at K4'
  refine S76_5 hκ hx6 hs.2.2.2.2.1 d0 d4 d2 (fun z => ?_) (fun z1 z => ?_) (fun z1 z2 z => ?_) (fun z1 z2 z3 z => ?_) (fun z1 z2 z3 z4 z => ?_) (fun z1 z2 z3 z4 z5 z => ?_) (fun z1 z2 z3 z4 z5 z6 z => ?_) (fun z1 z2 z3 z4 z5 z6 z7 => ?_)
  · rw [if_pos z] at K4'
    exact K4' (by rw [z]; decide)
  · rw [if_neg z1, if_pos z] at K4'
    exact K4' (by rw [z]; decide)
  · rw [if_neg z1, if_neg z2, if_pos z] at K4'
    exact K4' (by rw [z]; decide)
  · rw [if_neg z1, if_neg z2, if_neg z3, if_pos z] at K4'
    exact K4' (by rw [z]; decide)
  · rw [if_neg z1, if_neg z2, if_neg z3, if_neg z4, if_pos z] at K4'
    exact K4' (by rw [z]; decide)
  · rw [if_neg z1, if_neg z2, if_neg z3, if_neg z4, if_neg z5, if_pos z] at K4'
    exact K4' (by rw [z]; decide)
  · rw [if_neg z1, if_neg z2, if_neg z3, if_neg z4, if_neg z5, if_neg z6] at K4'
    exact K4' (by rw [z]; decide)
  · refine K3' ?_
    cases w : inR 0 wh 6 with
    | false => rfl
    | true => exact (sw6.mp w).elim (fun y => absurd y z1) (fun y => y.elim (fun y => absurd y z2) (fun y => y.elim (fun y => absurd y z3) (fun y => y.elim (fun y => absurd y z4) (fun y => y.elim (fun y => absurd y z5) (fun y => y.elim (fun y => absurd y z6) (fun y => absurd y z7))))))
theorem F148 (hκ : Rd κ) (hg : GOk g) (hI : MI g mp cf tu tr r M) (K0 : ¬ askC cf (okX g xx) true (inR 0 wh 6) = 0 → ∀ M', (∀ x j, x < 134 → M' x j = M x j) → M' 134 0 = nI (askC cf (okX g xx) true (inR 0 wh 6)) → MI g mp cf tu tr r M' → Q (.inl (some (.int 0)), M', κ)) (K1 : cf = true → okX g xx = true → inR 0 wh 6 = true → ∀ M', (∀ x j, x < 134 → M' x j = M x j) → M' 134 0 = nI 0 → MI g mp cf tu tr r M' → Q (.inl (some (.int (anS M g xx.toInt.toNat wh))), M', κ)) : RT 148 (0, entL 148 [.ref 134, .int xx, .int wh], [], M, κ) Q := by
  have h6 := hg.1
  have eb : (if (outR wh 0 6) = true then false else true) = inR 0 wh 6 := by
    rw [outR_inR]
    cases inR 0 wh 6 <;> rfl
  have hr : Run 147 (0, entL 147 [.ref 134, .int xx, .int 1, .int (bI (if (outR wh 0 6) = true then false else true))], [], M, κ) (.inl (some (.int (nI (askC cf (okX g xx) true (inR 0 wh 6))))), M, κ) := by
    rw [eb]
    exact c147 (th := true) hκ hg hI
  have hle : askC cf (okX g xx) true (inR 0 wh 6) ≤ 3 := by
    unfold askC
    repeat' split
    all_goals omega
  have hpos : 0 < nI (askC cf (okX g xx) true (inR 0 wh 6)) ↔ ¬ askC cf (okX g xx) true (inR 0 wh 6) = 0 := by
    rw [ltI, c0, nI_toInt (by omega)]
    omega
  refine S148_0 hκ hr (fun a => K0 (hpos.mp a) _ (fun x j hx => stM_o (by omega)) stM_s (MI_th h6 hI)) (fun a => ?_)
  have a0 : askC cf (okX g xx) true (inR 0 wh 6) = 0 := Classical.byContradiction fun z => a (hpos.mpr z)
  have a1 : cf = true ∧ okX g xx = true ∧ inR 0 wh 6 = true := by
    revert a0
    unfold askC
    cases cf <;> cases okX g xx <;> cases inR 0 wh 6 <;> decide
  have hI' := MI_th (w := nI (askC cf (okX g xx) true (inR 0 wh 6))) h6 hI
  have K1' := K1 a1.1 a1.2.1 a1.2.2 _ (fun x j hx => stM_o (by omega)) (stM_s.trans (congrArg nI a0)) hI'
  have hl : ∀ x j, x < 134 → stM M 134 0 (nI (askC cf (okX g xx) true (inR 0 wh 6))) x j = M x j := fun x j hx => stM_o (by omega)
  generalize stM M 134 0 (nI (askC cf (okX g xx) true (inR 0 wh 6))) = M1 at hI' K1' hl
  obtain ⟨q1, q2⟩ := okX_iff.mp a1.2.1
  obtain ⟨m1, m2, m3⟩ := hI'.2.2.2.2 a1.1
  obtain ⟨d0, d1, d2, d3, d4, d5, d6⟩ := m2 xx.toInt.toNat (by omega)
  obtain ⟨w1, w2, w3, w4, w5⟩ := m3 xx.toInt.toNat (by omega) q2
  have ex : xx = nI xx.toInt.toNat := (nI_tn q1.1).symm
  have hx6 : xx.toInt.toNat < 6 := by omega
  have hwh := sw6.mp a1.2.2
  clear K0 K1 hr hle hpos a a0 hI a1
  generalize xx.toInt.toNat = x at *
  rw [ex]
  unfold anS at K1'
  refine S148_34 hκ hx6 (fun z => ?_) (fun z1 z => ?_) (fun z1 z2 z => ?_) (fun z1 z2 z3 z => ?_) (fun z1 z2 z3 z4 z => ?_) (fun z1 z2 z3 z4 z5 z => ?_) (fun z1 z2 z3 z4 z5 z6 => ?_)
  · rw [if_pos z] at K1'
    rw [d4]
    exact K1'
  · rw [if_neg z1, if_pos z] at K1'
    rw [w2, hl _ _ (by omega)]
    exact K1'
  · rw [if_neg z1, if_neg z2, if_pos z] at K1'
    rw [w3, hl _ _ (by omega)]
    exact K1'
  · rw [if_neg z1, if_neg z2, if_neg z3, if_pos z] at K1'
    rw [w4, hl _ _ (by omega)]
    exact K1'
  · rw [if_neg z1, if_neg z2, if_neg z3, if_neg z4, if_pos z] at K1'
    rw [w5, hl _ _ (by omega)]
    exact K1'
  · rw [if_neg z1, if_neg z2, if_neg z3, if_neg z4, if_neg z5, if_pos z] at K1'
    rw [d0]
    exact K1'
  · rw [if_neg z1, if_neg z2, if_neg z3, if_neg z4, if_neg z5, if_neg z6] at K1'
    rw [d2]
    exact K1'
/-- place -/
def okK (g : Gs) (xx kk : Int32) : Bool := decide (0 ≤ kk.toInt ∧ kk.toInt < (s1 g).2.2.1 xx.toInt.toNat)
theorem F77 (hκ : Rd κ) (hg : GOk g) (hI : CI g mp cf tu tr r M) (K1 : cf = false → Q (.inr 1, M, kT κ)) (K2 : cf = true → okX g xx = false → Q (.inr 4, M, kT κ)) (K3 : cf = true → okX g xx = true → okK g xx kk = false → Q (.inr 4, M, kT κ)) (K5 : cf = true → okX g xx = true → okK g xx kk = true → inR 0 wh 4 = false → Q (.inr 2, M, kT κ)) (K4 : cf = true → okX g xx = true → okK g xx kk = true → inR 0 wh 4 = true → Q (.inl (some (.int (anP M g xx.toInt.toNat kk.toInt.toNat wh))), M, κ)) : RT 77 (0, entL 77 [.ref 0, .int xx, .int kk, .int wh], [], M, κ) Q := by
  refine S77_0 hκ (F80 hκ hg hI (fun a => .inr ⟨_, _, _, rfl, K1 a⟩) (fun a b => .inr ⟨_, _, _, rfl, K2 a b⟩) (fun a b => .inl ⟨_, _, _, rfl, ?_⟩))
  obtain ⟨o, o2, h1, h2, h3, h4, h5, h6', h7, h8, h9, ha, hb, hc⟩ := hI
  obtain ⟨q1, q2⟩ := okX_iff.mp b
  have h6 := hg.1
  obtain ⟨d0, d1, d2, d3, d4, d5, d6⟩ := (hc a).2.2.1 xx.toInt.toNat (by omega)
  have hs := ((SIv1 hg (hc a).2.1).1 xx.toInt.toNat (by omega)).2.2.2.2.1
  have ex : xx = nI xx.toInt.toNat := (nI_tn q1.1).symm
  have hx6 : xx.toInt.toNat < 6 := by omega
  have K3' := K3 a b
  have K4' := K4 a b
  have K5' := K5 a b
  unfold okK at K3' K4' K5'
  clear K1 K2 K3 K4 K5
  generalize xx.toInt.toNat = x at *
  rw [ex]
  have e0 : kk < 0 ↔ kk.toInt < 0 := by rw [ltI, c0]
  have e1 : kk < nI ((s1 g).2.2.1 x) ↔ kk.toInt < (s1 g).2.2.1 x := by rw [ltI, nI_toInt (by omega)]
  have hin : ¬ kk < 0 → kk < nI ((s1 g).2.2.1 x) → 0 ≤ kk.toInt ∧ kk.toInt < (s1 g).2.2.1 x := fun y1 y2 => by
    rw [e0] at y1
    rw [e1] at y2
    omega
  have hv : ¬ kk < 0 → kk < nI ((s1 g).2.2.1 x) → vp_in kk 10 := fun y1 y2 => by
    have := hin y1 y2
    exact vp10 (by omega)
  have ecl : kk.toNatClampNeg = kk.toInt.toNat := rfl
  unfold anP at K4'
  refine S77_5 hκ hx6 hs d4 (fun y1 y2 _ => hv y1 y2) (fun y1 y2 _ _ => hv y1 y2) (fun y1 y2 _ _ _ => hv y1 y2) (fun y1 y2 _ _ _ _ => hv y1 y2) (fun y1 y2 _ _ _ _ _ => hv y1 y2) (fun y => K3' (decide_eq_false ?_)) (fun y1 y2 z => ?_) (fun y1 y2 z1 z => ?_) (fun y1 y2 z1 z2 z => ?_) (fun y1 y2 z1 z2 z3 z => ?_) (fun y1 y2 z1 z2 z3 z4 z => ?_) (fun y1 y2 z1 z2 z3 z4 z5 => ?_)
  · rw [e0, e1] at y
    omega
  · have hi := hin y1 y2
    have K := K4' (decide_eq_true hi) (by rw [z]; decide)
    rw [if_pos z] at K
    rw [ecl, show 12 + 18 * x + 1 = 12 + 18 * x + 1 + 0 from rfl, d6 0 (by omega) _ (by omega)]
    exact K
  · have hi := hin y1 y2
    have K := K4' (decide_eq_true hi) (by rw [z]; decide)
    rw [if_neg z1, if_pos z] at K
    rw [ecl, show 12 + 18 * x + 6 = 12 + 18 * x + 1 + 5 from rfl, d6 5 (by omega) _ (by omega)]
    exact K
  · have K := K4' (decide_eq_true (hin y1 y2)) (by rw [z]; decide)
    rw [if_neg z1, if_neg z2, if_pos z] at K
    exact K
  · have K := K4' (decide_eq_true (hin y1 y2)) (by rw [z]; decide)
    rw [if_neg z1, if_neg z2, if_neg z3, if_pos z] at K
    exact K
  · have K := K4' (decide_eq_true (hin y1 y2)) (by rw [z]; decide)
    rw [if_neg z1, if_neg z2, if_neg z3, if_neg z4] at K
    exact K
  · refine K5' (decide_eq_true (hin y1 y2)) ?_
    cases w : inR 0 wh 4 with
    | false => rfl
    | true => exact (sw4.mp w).elim (fun y => absurd y z1) (fun y => y.elim (fun y => absurd y z2) (fun y => y.elim (fun y => absurd y z3) (fun y => y.elim (fun y => absurd y z4) (fun y => absurd y z5))))
theorem F149 (hκ : Rd κ) (hg : GOk g) (hI : MI g mp cf tu tr r M) (hmi : cf = true → miss g = false) (K0 : ¬ askC cf (okX g xx) (okK g xx kk) (inR 0 wh 4) = 0 → ∀ M', (∀ x j, x < 134 → M' x j = M x j) → M' 134 0 = nI (askC cf (okX g xx) (okK g xx kk) (inR 0 wh 4)) → MI g mp cf tu tr r M' → Q (.inl (some (.int 0)), M', κ)) (K1 : cf = true → okX g xx = true → okK g xx kk = true → inR 0 wh 4 = true → ∀ M', (∀ x j, x < 134 → M' x j = M x j) → M' 134 0 = nI 0 → MI g mp cf tu tr r M' → Q (.inl (some (.int (anP M g xx.toInt.toNat kk.toInt.toNat wh))), M', κ)) : RT 149 (0, entL 149 [.ref 134, .int xx, .int kk, .int wh], [], M, κ) Q := by
  have h6 := hg.1
  have eb : (if (outR wh 0 4) = true then false else true) = inR 0 wh 4 := by
    rw [outR_inR]
    cases inR 0 wh 4 <;> rfl
  have eo : outR xx 0 5 = true ↔ ¬ (0 ≤ xx.toInt ∧ xx.toInt ≤ 5) := by
    have e : inR 0 xx 5 = true ↔ 0 ≤ xx.toInt ∧ xx.toInt ≤ 5 := inR_iff
    rw [outR_inR]
    cases q : inR 0 xx 5 with
    | false => rw [q] at e; exact ⟨fun _ z => Bool.noConfusion (e.mpr z), fun _ => rfl⟩
    | true => rw [q] at e; exact ⟨fun z => (by cases z), fun z => absurd (e.mp rfl) z⟩
  have hr : Run 147 (0, entL 147 [.ref 134, .int xx, .int (bI (if (outR xx 0 5) = true then false else (if (outR kk 0 ((M 151 ((if (outR xx 0 5) = true then 0 else xx).toNatClampNeg)) - 1)) = true then false else true))), .int (bI (if (outR wh 0 4) = true then false else true))], [], M, κ) (.inl (some (.int (nI (askC cf (okX g xx) (okK g xx kk) (inR 0 wh 4))))), M, κ) := by
    rw [eb]
    have hr1 := c147 (kk := xx) (th := (if (outR xx 0 5) = true then false else (if (outR kk 0 ((M 151 ((if (outR xx 0 5) = true then 0 else xx).toNatClampNeg)) - 1)) = true then false else true))) (kw := inR 0 wh 4) hκ hg hI
    have e : askC cf (okX g xx) (if (outR xx 0 5) = true then false else (if (outR kk 0 ((M 151 ((if (outR xx 0 5) = true then 0 else xx).toNatClampNeg)) - 1)) = true then false else true)) (inR 0 wh 4) = askC cf (okX g xx) (okK g xx kk) (inR 0 wh 4) := by
      cases hcf : cf with
      | false => rfl
      | true =>
        cases hox : okX g xx with
        | false => rfl
        | true =>
          obtain ⟨q1, q2⟩ := okX_iff.mp hox
          have hno : ¬ outR xx 0 5 = true := fun z => (eo.mp z) (by omega)
          have hd := ((hI.2.2.2.2 hcf).2.1 xx.toInt.toNat (by omega)).2.2.2.2.1
          have hs := ((SIv1 hg (hmi hcf)).1 xx.toInt.toNat (by omega)).2.2.2.2.1
          have ecl : xx.toNatClampNeg = xx.toInt.toNat := rfl
          have e2 : (if (outR xx 0 5) = true then false else (if (outR kk 0 ((M 151 ((if (outR xx 0 5) = true then 0 else xx).toNatClampNeg)) - 1)) = true then false else true)) = okK g xx kk := by
            rw [if_neg hno, if_neg hno, ecl, hd, outR_inR]
            have e3 : inR 0 kk (nI ((s1 g).2.2.1 xx.toInt.toNat) - 1) = true ↔ 0 ≤ kk.toInt ∧ kk.toInt < (s1 g).2.2.1 xx.toInt.toNat := by
              rw [inR_iff, c0, l_sub (by rw [nI_toInt (by omega)]; omega) (by decide), nI_toInt (by omega), t1]
              omega
            unfold okK
            cases q : inR 0 kk (nI ((s1 g).2.2.1 xx.toInt.toNat) - 1) with
            | false =>
              rw [q] at e3
              exact (decide_eq_false (fun z => Bool.noConfusion (e3.mpr z))).symm
            | true =>
              rw [q] at e3
              exact (decide_eq_true (e3.mp rfl)).symm
          rw [e2]
    rw [e] at hr1
    exact hr1
  have hle : askC cf (okX g xx) (okK g xx kk) (inR 0 wh 4) ≤ 3 := by
    unfold askC
    repeat' split
    all_goals omega
  have hpos : 0 < nI (askC cf (okX g xx) (okK g xx kk) (inR 0 wh 4)) ↔ ¬ askC cf (okX g xx) (okK g xx kk) (inR 0 wh 4) = 0 := by
    rw [ltI, c0, nI_toInt (by omega)]
    omega
  refine S149_0 hκ hr (fun a => ?_) (fun a => K0 (hpos.mp a) _ (fun x j hx => stM_o (by omega)) stM_s (MI_th h6 hI)) (fun a => ?_)
  · rw [if_neg a]
    refine vp6 ?_
    have : 0 ≤ xx.toInt ∧ xx.toInt ≤ 5 := Classical.byContradiction fun z => a (eo.mpr z)
    omega
  have a0 : askC cf (okX g xx) (okK g xx kk) (inR 0 wh 4) = 0 := Classical.byContradiction fun z => a (hpos.mpr z)
  have a1 : cf = true ∧ okX g xx = true ∧ okK g xx kk = true ∧ inR 0 wh 4 = true := by
    revert a0
    unfold askC
    cases cf <;> cases okX g xx <;> cases okK g xx kk <;> cases inR 0 wh 4 <;> decide
  have hI' := MI_th (w := nI (askC cf (okX g xx) (okK g xx kk) (inR 0 wh 4))) h6 hI
  have K1' := K1 a1.1 a1.2.1 a1.2.2.1 a1.2.2.2 _ (fun x j hx => stM_o (by omega)) (stM_s.trans (congrArg nI a0)) hI'
  have hl : ∀ x j, x < 134 → stM M 134 0 (nI (askC cf (okX g xx) (okK g xx kk) (inR 0 wh 4))) x j = M x j := fun x j hx => stM_o (by omega)
  generalize stM M 134 0 (nI (askC cf (okX g xx) (okK g xx kk) (inR 0 wh 4))) = M1 at hI' K1' hl
  obtain ⟨q1, q2⟩ := okX_iff.mp a1.2.1
  have q3 : 0 ≤ kk.toInt ∧ kk.toInt < (s1 g).2.2.1 xx.toInt.toNat := of_decide_eq_true a1.2.2.1
  obtain ⟨m1, m2, m3⟩ := hI'.2.2.2.2 a1.1
  obtain ⟨d0, d1, d2, d3, d4, d5, d6⟩ := m2 xx.toInt.toNat (by omega)
  obtain ⟨w1, w2, w3, w4, w5⟩ := m3 xx.toInt.toNat (by omega) q2
  have hs := ((SIv1 hg (hmi a1.1)).1 xx.toInt.toNat (by omega)).2.2.2.2.1
  have ex : xx = nI xx.toInt.toNat := (nI_tn q1.1).symm
  have ek : kk = nI kk.toInt.toNat := (nI_tn q3.1).symm
  have hx6 : xx.toInt.toNat < 6 := by omega
  have hk10 : kk.toInt.toNat < (s1 g).2.2.1 xx.toInt.toNat := by omega
  clear K0 K1 hr hle hpos a a0 hI a1 eo
  generalize xx.toInt.toNat = x at *
  generalize kk.toInt.toNat = k at *
  rw [ex, ek]
  obtain ⟨u1, u2, u3⟩ := w1 k hk10
  unfold anP at K1'
  refine S149_79 hκ hx6 (by omega) (fun z => ?_) (fun z1 z => ?_) (fun z1 z2 z => ?_) (fun z1 z2 z3 z => ?_) (fun z1 z2 z3 z4 => ?_)
  · rw [if_pos z] at K1'
    rw [show (152 : Nat) = 152 + 0 from rfl, d6 0 (by omega) k hk10]
    exact K1'
  · rw [if_neg z1, if_pos z] at K1'
    rw [show (157 : Nat) = 152 + 5 from rfl, d6 5 (by omega) k hk10]
    exact K1'
  · rw [if_neg z1, if_neg z2, if_pos z] at K1'
    rw [u1, hl _ _ (by omega)]
    exact K1'
  · rw [if_neg z1, if_neg z2, if_neg z3, if_pos z] at K1'
    rw [u2, hl _ _ (by omega)]
    exact K1'
  · rw [if_neg z1, if_neg z2, if_neg z3, if_neg z4] at K1'
    rw [u3, hl _ _ (by omega)]
    exact K1'
end SH
end P_56_show
