/-! RUN: an operation is done -/
section P_47_op
theorem i_53_0 : ins 53 0 = some (.iload_n 1, 1, 1, 0, 0, 0) := rfl
theorem i_53_1 : ins 53 1 = some (.ifCond .ne 5, 4, 6, 0, 0, 0) := rfl
theorem i_53_4 : ins 53 4 = some (.iconst 1, 5, 0, 0, 0, 1) := rfl
theorem i_53_5 : ins 53 5 = some (.ireturn, 6, 0, 0, 0, 0) := rfl
theorem i_53_6 : ins 53 6 = some (.iload_n 1, 7, 1, 0, 0, 0) := rfl
theorem i_53_7 : ins 53 7 = some (.ifCond .le 22, 10, 29, 0, 0, 0) := rfl
theorem i_53_10 : ins 53 10 = some (.aload_n 0, 11, 0, 0, 0, 0) := rfl
theorem i_53_11 : ins 53 11 = some (.getfield 26, 14, 4, 4, 0, 0) := rfl
theorem i_53_14 : ins 53 14 = some (.iload_n 1, 15, 1, 0, 0, 0) := rfl
theorem i_53_15 : ins 53 15 = some (.iconst 1, 16, 0, 0, 0, 1) := rfl
theorem i_53_16 : ins 53 16 = some (.isub, 17, 0, 0, 0, 0) := rfl
theorem i_53_17 : ins 53 17 = some (.iaload, 18, 0, 0, 0, 0) := rfl
theorem i_53_18 : ins 53 18 = some (.ifCond .eq 7, 21, 25, 0, 0, 0) := rfl
theorem i_53_21 : ins 53 21 = some (.iconst 1, 22, 0, 0, 0, 1) := rfl
theorem i_53_22 : ins 53 22 = some (.goto 23, 25, 45, 0, 0, 0) := rfl
theorem i_53_25 : ins 53 25 = some (.iconst 0, 26, 0, 0, 0, 0) := rfl
theorem i_53_26 : ins 53 26 = some (.goto 19, 29, 45, 0, 0, 0) := rfl
theorem i_53_29 : ins 53 29 = some (.aload_n 0, 30, 0, 0, 0, 0) := rfl
theorem i_53_30 : ins 53 30 = some (.getfield 26, 33, 4, 4, 0, 0) := rfl
theorem i_53_33 : ins 53 33 = some (.iconst (-1), 34, 0, 0, 0, (-1)) := rfl
theorem i_53_34 : ins 53 34 = some (.iload_n 1, 35, 1, 0, 0, 0) := rfl
theorem i_53_35 : ins 53 35 = some (.isub, 36, 0, 0, 0, 0) := rfl
theorem i_53_36 : ins 53 36 = some (.iaload, 37, 0, 0, 0, 0) := rfl
theorem i_53_37 : ins 53 37 = some (.ifCond .ne 7, 40, 44, 0, 0, 0) := rfl
theorem i_53_40 : ins 53 40 = some (.iconst 1, 41, 0, 0, 0, 1) := rfl
theorem i_53_41 : ins 53 41 = some (.goto 4, 44, 45, 0, 0, 0) := rfl
theorem i_53_44 : ins 53 44 = some (.iconst 0, 45, 0, 0, 0, 0) := rfl
theorem i_53_45 : ins 53 45 = some (.ireturn, 46, 0, 0, 0, 0) := rfl
theorem S53_0 {Q : Ou → Prop} {M : Mem} {κ : Kp} (hκ : Rd κ) {oo : Nat} (ho : isOc oo) {g : Int32}
    (o1 : ¬ (g = 0) → 0 < g → vp_in (g - 1) 12)
    (o2 : ¬ (g = 0) → ¬ (0 < g) → vp_in ((-1) - g) 12)
    (k1 : g = 0 → Q (.inl (some (.int 1)), M, κ))
    (k2 : ¬ (g = 0) → Q (.inl (some (.int (bI (if 0 < g then (if (M (oo + 2) ((g - 1).toNatClampNeg)) = 0 then false else true) else (if (M (oo + 2) (((-1) - g).toNatClampNeg)) = 0 then true else false))))), M, κ))
    : RT 53 (0, [.ref oo, .int g], [], M, κ) Q := by
  refine w_load i_53_0 rfl rfl ?_
  refine w_if0n (g = 0) i_53_1 cI0_ne ?_ ?_
  · intro h1
    refine w_push i_53_4 rfl ?_
    exact w_iret i_53_5 (.inr ⟨rfl, rfl⟩) (k1 h1)
  · intro h2
    refine w_load i_53_6 rfl rfl ?_
    have K3 : RT 53 (45, [.ref oo, .int g], [.int (bI (if 0 < g then (if (M (oo + 2) ((g - 1).toNatClampNeg)) = 0 then false else true) else (if (M (oo + 2) (((-1) - g).toNatClampNeg)) = 0 then true else false)))], M, κ) Q := by
      exact w_iret i_53_45 (.inr ⟨rfl, isB_bI _⟩) (k2 h2)
    refine w_if0n (0 < g) i_53_7 cI0_le ?_ ?_
    · intro h4
      refine w_load i_53_10 rfl rfl ?_
      refine w_getR (oo + 2) i_53_11 hκ (oc_ob ho) rfl rfl ?_
      refine w_load i_53_14 rfl rfl ?_
      refine w_push i_53_15 rfl ?_
      refine w_bin (w := (g - 1)) i_53_16 rfl rfl ?_
      refine w_iald (v := (M (oo + 2) ((g - 1).toNatClampNeg))) i_53_17 hκ (oc_ar2 ho) (o1 h2 h4) (rfl) ?_
      refine w_if0 ((M (oo + 2) ((g - 1).toNatClampNeg)) = 0) i_53_18 cI0_eq ?_ ?_
      · intro h5
        refine w_push i_53_25 rfl ?_
        refine w_goto i_53_26 ?_
        exact (by first | exact (K3) | (have K9 := K3; simp only [↓if_pos h4, ↓if_pos h5] at K9 ⊢; exact (K9)))
      · intro h6
        refine w_push i_53_21 rfl ?_
        refine w_goto i_53_22 ?_
        exact (by first | exact (K3) | (have K9 := K3; simp only [↓if_pos h4, ↓if_neg h6] at K9 ⊢; exact (K9)))
    · intro h7
      refine w_load i_53_29 rfl rfl ?_
      refine w_getR (oo + 2) i_53_30 hκ (oc_ob ho) rfl rfl ?_
      refine w_push i_53_33 rfl ?_
      refine w_load i_53_34 rfl rfl ?_
      refine w_bin (w := ((-1) - g)) i_53_35 rfl rfl ?_
      refine w_iald (v := (M (oo + 2) (((-1) - g).toNatClampNeg))) i_53_36 hκ (oc_ar2 ho) (o2 h2 h7) (rfl) ?_
      refine w_if0n ((M (oo + 2) (((-1) - g).toNatClampNeg)) = 0) i_53_37 cI0_ne ?_ ?_
      · intro h8
        refine w_push i_53_40 rfl ?_
        refine w_goto i_53_41 ?_
        exact (by first | exact (K3) | (have K9 := K3; simp only [↓if_neg h7, ↓if_pos h8] at K9 ⊢; exact (K9)))
      · intro h9
        refine w_push i_53_44 rfl ?_
        exact (by first | exact (K3) | (have K9 := K3; simp only [↓if_neg h7, ↓if_neg h9] at K9 ⊢; exact (K9)))
theorem i_54_0 : ins 54 0 = some (.aload_n 0, 1, 0, 0, 0, 0) := rfl
theorem i_54_1 : ins 54 1 = some (.getfield 9, 4, 4, 0, 0, 0) := rfl
theorem i_54_4 : ins 54 4 = some (.bipush 64, 6, 0, 0, 0, 64) := rfl
theorem i_54_6 : ins 54 6 = some (.if_icmp .ge 13, 9, 19, 0, 0, 0) := rfl
theorem i_54_9 : ins 54 9 = some (.aload_n 0, 10, 0, 0, 0, 0) := rfl
theorem i_54_10 : ins 54 10 = some (.getfield 22, 13, 4, 3, 0, 0) := rfl
theorem i_54_13 : ins 54 13 = some (.aload_n 0, 14, 0, 0, 0, 0) := rfl
theorem i_54_14 : ins 54 14 = some (.getfield 9, 17, 4, 0, 0, 0) := rfl
theorem i_54_17 : ins 54 17 = some (.iload_n 1, 18, 1, 0, 0, 0) := rfl
theorem i_54_18 : ins 54 18 = some (.iastore, 19, 0, 0, 0, 0) := rfl
theorem i_54_19 : ins 54 19 = some (.aload_n 0, 20, 0, 0, 0, 0) := rfl
theorem i_54_20 : ins 54 20 = some (.dup, 21, 0, 0, 0, 0) := rfl
theorem i_54_21 : ins 54 21 = some (.getfield 9, 24, 4, 0, 0, 0) := rfl
theorem i_54_24 : ins 54 24 = some (.iconst 1, 25, 0, 0, 0, 1) := rfl
theorem i_54_25 : ins 54 25 = some (.iadd, 26, 0, 0, 0, 0) := rfl
theorem i_54_26 : ins 54 26 = some (.putfield 9, 29, 4, 0, 0, 0) := rfl
theorem i_54_29 : ins 54 29 = some (.return_, 30, 0, 0, 0, 0) := rfl
theorem S54_0 {Q : Ou → Prop} {M : Mem} {κ : Kp} (hκ : Rd κ) {oo : Nat} (ho : isOc oo) {v : Int32}
    (o1 : (M oo 0) < 64 → vp_in (M oo 0) 64)
    (k1 : Q (.inl none, (stM (if (M oo 0) < 64 then (stM M (oo + 1) ((M oo 0).toNatClampNeg) v) else M) oo 0 (((if (M oo 0) < 64 then (stM M (oo + 1) ((M oo 0).toNatClampNeg) v) else M) oo 0) + 1)), κ))
    : RT 54 (0, [.ref oo, .int v], [], M, κ) Q := by
  refine w_load i_54_0 rfl rfl ?_
  refine w_getI (v := (M oo 0)) i_54_1 hκ (oc_ob ho) rfl (rfl) ?_
  refine w_push i_54_4 rfl ?_
  have K1 : RT 54 (19, [.ref oo, .int v], [], (if (M oo 0) < 64 then (stM M (oo + 1) ((M oo 0).toNatClampNeg) v) else M), κ) Q := by
    refine w_load i_54_19 rfl rfl ?_
    refine w_dup i_54_20 rfl ?_
    refine w_getI (v := ((if (M oo 0) < 64 then (stM M (oo + 1) ((M oo 0).toNatClampNeg) v) else M) oo 0)) i_54_21 hκ (oc_ob ho) rfl (rfl) ?_
    refine w_push i_54_24 rfl ?_
    refine w_bin (w := (((if (M oo 0) < 64 then (stM M (oo + 1) ((M oo 0).toNatClampNeg) v) else M) oo 0) + 1)) i_54_25 rfl rfl ?_
    refine w_putI i_54_26 hκ (oc_ob ho) rfl (fun c => absurd c (by decide)) ?_
    exact w_vret i_54_29 rfl (k1)
  refine w_if2n ((M oo 0) < 64) i_54_6 cI_ge ?_ ?_
  · intro h2
    refine w_load i_54_9 rfl rfl ?_
    refine w_getR (oo + 1) i_54_10 hκ (oc_ob ho) rfl rfl ?_
    refine w_load i_54_13 rfl rfl ?_
    refine w_getI (v := (M oo 0)) i_54_14 hκ (oc_ob ho) rfl (rfl) ?_
    refine w_load i_54_17 rfl rfl ?_
    refine w_iast i_54_18 hκ (oc_ar1 ho) (o1 h2) ?_
    exact (by first | exact (K1) | (have K9 := K1; simp only [↓if_pos h2] at K9 ⊢; exact (K9)))
  · intro h3
    exact (by first | exact (K1) | (have K9 := K1; simp only [↓if_neg h3] at K9 ⊢; exact (K9)))
theorem i_55_0 : ins 55 0 = some (.iload_n 3, 1, 3, 0, 0, 0) := rfl
theorem i_55_1 : ins 55 1 = some (.ifCond .ne 11, 4, 12, 0, 0, 0) := rfl
theorem i_55_4 : ins 55 4 = some (.aload_n 0, 5, 0, 0, 0, 0) := rfl
theorem i_55_5 : ins 55 5 = some (.iconst 1, 6, 0, 0, 0, 1) := rfl
theorem i_55_6 : ins 55 6 = some (.putfield 18, 9, 4, 2, 0, 0) := rfl
theorem i_55_9 : ins 55 9 = some (.goto 12, 12, 21, 0, 0, 0) := rfl
theorem i_55_12 : ins 55 12 = some (.aload_n 0, 13, 0, 0, 0, 0) := rfl
theorem i_55_13 : ins 55 13 = some (.getfield 26, 16, 4, 4, 0, 0) := rfl
theorem i_55_16 : ins 55 16 = some (.iload_n 1, 17, 1, 0, 0, 0) := rfl
theorem i_55_17 : ins 55 17 = some (.iload_n 2, 18, 2, 0, 0, 0) := rfl
theorem i_55_18 : ins 55 18 = some (.iload_n 3, 19, 3, 0, 0, 0) := rfl
theorem i_55_19 : ins 55 19 = some (.idiv, 20, 0, 0, 0, 0) := rfl
theorem i_55_20 : ins 55 20 = some (.iastore, 21, 0, 0, 0, 0) := rfl
theorem i_55_21 : ins 55 21 = some (.return_, 22, 0, 0, 0, 0) := rfl
theorem S55_0 {Q : Ou → Prop} {M : Mem} {κ : Kp} (hκ : Rd κ) {oo : Nat} (ho : isOc oo) {d : Int32} {a : Int32} {bb : Int32}
    (o1 : ¬ (bb = 0) → ¬ bb = 0)
    (o2 : ¬ (bb = 0) → vp_in d 12)
    (k1 : Q (.inl none, (if bb = 0 then (stM M oo 2 1) else (stM M (oo + 2) d.toNatClampNeg (a / bb))), κ))
    : RT 55 (0, [.ref oo, .int d, .int a, .int bb], [], M, κ) Q := by
  refine w_load i_55_0 rfl rfl ?_
  have K1 : RT 55 (21, [.ref oo, .int d, .int a, .int bb], [], (if bb = 0 then (stM M oo 2 1) else (stM M (oo + 2) d.toNatClampNeg (a / bb))), κ) Q := by
    exact w_vret i_55_21 rfl (k1)
  refine w_if0n (bb = 0) i_55_1 cI0_ne ?_ ?_
  · intro h2
    refine w_load i_55_4 rfl rfl ?_
    refine w_push i_55_5 rfl ?_
    refine w_putI i_55_6 hκ (oc_ob ho) rfl (fun _ => rfl) ?_
    refine w_goto i_55_9 ?_
    exact (by first | exact (K1) | (have K9 := K1; simp only [↓if_pos h2] at K9 ⊢; exact (K9)))
  · intro h3
    refine w_load i_55_12 rfl rfl ?_
    refine w_getR (oo + 2) i_55_13 hκ (oc_ob ho) rfl rfl ?_
    refine w_load i_55_16 rfl rfl ?_
    refine w_load i_55_17 rfl rfl ?_
    refine w_load i_55_18 rfl rfl ?_
    refine w_div (w := (a / bb)) i_55_19 rfl (o1 h3) rfl ?_
    refine w_iast i_55_20 hκ (oc_ar2 ho) (o2 h3) ?_
    exact (by first | exact (K1) | (have K9 := K1; simp only [↓if_neg h3] at K9 ⊢; exact (K9)))
theorem i_56_0 : ins 56 0 = some (.iload_n 1, 1, 1, 0, 0, 0) := rfl
theorem i_56_1 : ins 56 1 = some (.tableswitch 70 0 5 #[39, 42, 47, 51, 55, 59], 40, 0, 0, 0, 0) := rfl
theorem i_56_40 : ins 56 40 = some (.iload 4, 42, 4, 0, 0, 0) := rfl
theorem i_56_42 : ins 56 42 = some (.ireturn, 43, 0, 0, 0, 0) := rfl
theorem i_56_43 : ins 56 43 = some (.iload_n 2, 44, 2, 0, 0, 0) := rfl
theorem i_56_44 : ins 56 44 = some (.iload 4, 46, 4, 0, 0, 0) := rfl
theorem i_56_46 : ins 56 46 = some (.iadd, 47, 0, 0, 0, 0) := rfl
theorem i_56_47 : ins 56 47 = some (.ireturn, 48, 0, 0, 0, 0) := rfl
theorem i_56_48 : ins 56 48 = some (.iload_n 2, 49, 2, 0, 0, 0) := rfl
theorem i_56_49 : ins 56 49 = some (.iload_n 3, 50, 3, 0, 0, 0) := rfl
theorem i_56_50 : ins 56 50 = some (.iadd, 51, 0, 0, 0, 0) := rfl
theorem i_56_51 : ins 56 51 = some (.ireturn, 52, 0, 0, 0, 0) := rfl
theorem i_56_52 : ins 56 52 = some (.iload_n 2, 53, 2, 0, 0, 0) := rfl
theorem i_56_53 : ins 56 53 = some (.iload_n 3, 54, 3, 0, 0, 0) := rfl
theorem i_56_54 : ins 56 54 = some (.isub, 55, 0, 0, 0, 0) := rfl
theorem i_56_55 : ins 56 55 = some (.ireturn, 56, 0, 0, 0, 0) := rfl
theorem i_56_56 : ins 56 56 = some (.iload_n 2, 57, 2, 0, 0, 0) := rfl
theorem i_56_57 : ins 56 57 = some (.iload_n 3, 58, 3, 0, 0, 0) := rfl
theorem i_56_58 : ins 56 58 = some (.imul, 59, 0, 0, 0, 0) := rfl
theorem i_56_59 : ins 56 59 = some (.ireturn, 60, 0, 0, 0, 0) := rfl
theorem i_56_60 : ins 56 60 = some (.iload_n 2, 61, 2, 0, 0, 0) := rfl
theorem i_56_61 : ins 56 61 = some (.iload_n 3, 62, 3, 0, 0, 0) := rfl
theorem i_56_62 : ins 56 62 = some (.if_icmp .ge 7, 65, 69, 0, 0, 0) := rfl
theorem i_56_65 : ins 56 65 = some (.iconst 1, 66, 0, 0, 0, 1) := rfl
theorem i_56_66 : ins 56 66 = some (.goto 4, 69, 70, 0, 0, 0) := rfl
theorem i_56_69 : ins 56 69 = some (.iconst 0, 70, 0, 0, 0, 0) := rfl
theorem i_56_70 : ins 56 70 = some (.ireturn, 71, 0, 0, 0, 0) := rfl
theorem i_56_71 : ins 56 71 = some (.aload_n 0, 72, 0, 0, 0, 0) := rfl
theorem i_56_72 : ins 56 72 = some (.getfield 29, 75, 4, 5, 0, 0) := rfl
theorem i_56_75 : ins 56 75 = some (.iload_n 2, 76, 2, 0, 0, 0) := rfl
theorem i_56_76 : ins 56 76 = some (.iload 4, 78, 4, 0, 0, 0) := rfl
theorem i_56_78 : ins 56 78 = some (.iadd, 79, 0, 0, 0, 0) := rfl
theorem i_56_79 : ins 56 79 = some (.invokestatic 59, 82, 84, 5, 1, 0) := rfl
theorem i_56_82 : ins 56 82 = some (.iaload, 83, 0, 0, 0, 0) := rfl
theorem i_56_83 : ins 56 83 = some (.ireturn, 84, 0, 0, 0, 0) := rfl
theorem tg_56_1 {x : Int32} (h0 : ¬ x = 0) (h1 : ¬ x = 1) (h2 : ¬ x = 2) (h3 : ¬ x = 3) (h4 : ¬ x = 4) (h5 : ¬ x = 5) : tgtOk 1 (.tableswitch 70 0 5 #[39, 42, 47, 51, 55, 59]) x 71 = true := tgd (by have e0 : x.toInt ≠ 0 := fun e => h0 (Int32.toInt_inj.mp e); have e1 : x.toInt ≠ 1 := fun e => h1 (Int32.toInt_inj.mp e); have e2 : x.toInt ≠ 2 := fun e => h2 (Int32.toInt_inj.mp e); have e3 : x.toInt ≠ 3 := fun e => h3 (Int32.toInt_inj.mp e); have e4 : x.toInt ≠ 4 := fun e => h4 (Int32.toInt_inj.mp e); have e5 : x.toInt ≠ 5 := fun e => h5 (Int32.toInt_inj.mp e); omega) (by decide)
theorem S56_0 {Q : Ou → Prop} {M : Mem} {κ : Kp} (hκ : Rd κ) {oo : Nat} (ho : isOc oo) {c : Int32} {a : Int32} {bb : Int32} {n : Int32}
    (o1 : ¬ (c = 0) → ¬ (c = 1) → ¬ (c = 2) → ¬ (c = 3) → ¬ (c = 4) → ¬ (c = 5) → vp_in ((a + n) &&& 63) 64)
    (k1 : c = 0 → Q (.inl (some (.int n)), M, κ))
    (k2 : ¬ (c = 0) → c = 1 → Q (.inl (some (.int (a + n))), M, κ))
    (k3 : ¬ (c = 0) → ¬ (c = 1) → c = 2 → Q (.inl (some (.int (a + bb))), M, κ))
    (k4 : ¬ (c = 0) → ¬ (c = 1) → ¬ (c = 2) → c = 3 → Q (.inl (some (.int (a - bb))), M, κ))
    (k5 : ¬ (c = 0) → ¬ (c = 1) → ¬ (c = 2) → ¬ (c = 3) → c = 4 → Q (.inl (some (.int (a * bb))), M, κ))
    (k6 : ¬ (c = 0) → ¬ (c = 1) → ¬ (c = 2) → ¬ (c = 3) → ¬ (c = 4) → c = 5 → Q (.inl (some (.int (bI (if a < bb then true else false)))), M, κ))
    (k7 : ¬ (c = 0) → ¬ (c = 1) → ¬ (c = 2) → ¬ (c = 3) → ¬ (c = 4) → ¬ (c = 5) → Q (.inl (some (.int (M (oo + 3) (((a + n) &&& 63).toNatClampNeg)))), M, κ))
    : RT 56 (0, [.ref oo, .int c, .int a, .int bb, .int n], [], M, κ) Q := by
  refine w_load i_56_0 rfl rfl ?_
  by_cases h1 : c = 0
  · refine w_table 40 i_56_1 (by rw [h1]; rfl) ?_
    refine w_load i_56_40 rfl rfl ?_
    exact w_iret i_56_42 (.inl rfl) (k1 h1)
  · have h2 := h1
    by_cases h3 : c = 1
    · refine w_table 43 i_56_1 (by rw [h3]; rfl) ?_
      refine w_load i_56_43 rfl rfl ?_
      refine w_load i_56_44 rfl rfl ?_
      refine w_bin (w := (a + n)) i_56_46 rfl rfl ?_
      exact w_iret i_56_47 (.inl rfl) (k2 h2 h3)
    · have h4 := h3
      by_cases h5 : c = 2
      · refine w_table 48 i_56_1 (by rw [h5]; rfl) ?_
        refine w_load i_56_48 rfl rfl ?_
        refine w_load i_56_49 rfl rfl ?_
        refine w_bin (w := (a + bb)) i_56_50 rfl rfl ?_
        exact w_iret i_56_51 (.inl rfl) (k3 h2 h4 h5)
      · have h6 := h5
        by_cases h7 : c = 3
        · refine w_table 52 i_56_1 (by rw [h7]; rfl) ?_
          refine w_load i_56_52 rfl rfl ?_
          refine w_load i_56_53 rfl rfl ?_
          refine w_bin (w := (a - bb)) i_56_54 rfl rfl ?_
          exact w_iret i_56_55 (.inl rfl) (k4 h2 h4 h6 h7)
        · have h8 := h7
          by_cases h9 : c = 4
          · refine w_table 56 i_56_1 (by rw [h9]; rfl) ?_
            refine w_load i_56_56 rfl rfl ?_
            refine w_load i_56_57 rfl rfl ?_
            refine w_bin (w := (a * bb)) i_56_58 rfl rfl ?_
            exact w_iret i_56_59 (.inl rfl) (k5 h2 h4 h6 h8 h9)
          · have h10 := h9
            by_cases h11 : c = 5
            · refine w_table 60 i_56_1 (by rw [h11]; rfl) ?_
              refine w_load i_56_60 rfl rfl ?_
              refine w_load i_56_61 rfl rfl ?_
              have K12 : RT 56 (70, [.ref oo, .int c, .int a, .int bb, .int n], [.int (bI (if a < bb then true else false))], M, κ) Q := by
                exact w_iret i_56_70 (.inl rfl) (k6 h2 h4 h6 h8 h10 h11)
              refine w_if2n (a < bb) i_56_62 cI_ge ?_ ?_
              · intro h13
                refine w_push i_56_65 rfl ?_
                refine w_goto i_56_66 ?_
                exact (by first | exact (K12) | (have K9 := K12; simp only [↓if_pos h13] at K9 ⊢; exact (K9)))
              · intro h14
                refine w_push i_56_69 rfl ?_
                exact (by first | exact (K12) | (have K9 := K12; simp only [↓if_neg h14] at K9 ⊢; exact (K9)))
            · have h15 := h11
              refine w_table 71 i_56_1 (tg_56_1 h2 h4 h6 h8 h10 h15) ?_
              refine w_load i_56_71 rfl rfl ?_
              refine w_getR (oo + 3) i_56_72 hκ (oc_ob ho) rfl rfl ?_
              refine w_load i_56_75 rfl rfl ?_
              refine w_load i_56_76 rfl rfl ?_
              refine w_bin (w := (a + n)) i_56_78 rfl rfl ?_
              refine w_callS i_56_79 ⟨by decide, by decide, by decide, rfl, rfl⟩ (av := [.int (a + n)]) (rest := [.ref (oo + 3)]) rfl rfl (Nat.le_of_ble_eq_true rfl) (v := some (.int ((a + n) &&& 63))) (c84 hκ) ?_
              refine w_iald (v := (M (oo + 3) (((a + n) &&& 63).toNatClampNeg))) i_56_82 hκ (oc_ar3 ho) (o1 h2 h4 h6 h8 h10 h15) (rfl) ?_
              exact w_iret i_56_83 (.inl rfl) (k7 h2 h4 h6 h8 h10 h15)
theorem i_52_0 : ins 52 0 = some (.aload_n 0, 1, 0, 0, 0, 0) := rfl
theorem i_52_1 : ins 52 1 = some (.aload_n 1, 2, 1, 0, 0, 0) := rfl
theorem i_52_2 : ins 52 2 = some (.getfield 38, 5, 0, 11, 0, 0) := rfl
theorem i_52_5 : ins 52 5 = some (.iload_n 2, 6, 2, 0, 0, 0) := rfl
theorem i_52_6 : ins 52 6 = some (.iaload, 7, 0, 0, 0, 0) := rfl
theorem i_52_7 : ins 52 7 = some (.invokevirtual 43, 10, 53, 0, 2, 0) := rfl
theorem i_52_10 : ins 52 10 = some (.ifCond .ne 4, 13, 14, 0, 0, 0) := rfl
theorem i_52_13 : ins 52 13 = some (.return_, 14, 0, 0, 0, 0) := rfl
theorem i_52_14 : ins 52 14 = some (.aload_n 0, 15, 0, 0, 0, 0) := rfl
theorem i_52_15 : ins 52 15 = some (.getfield 26, 18, 4, 4, 0, 0) := rfl
theorem i_52_18 : ins 52 18 = some (.aload_n 1, 19, 1, 0, 0, 0) := rfl
theorem i_52_19 : ins 52 19 = some (.getfield 47, 22, 0, 8, 0, 0) := rfl
theorem i_52_22 : ins 52 22 = some (.iload_n 2, 23, 2, 0, 0, 0) := rfl
theorem i_52_23 : ins 52 23 = some (.iaload, 24, 0, 0, 0, 0) := rfl
theorem i_52_24 : ins 52 24 = some (.iaload, 25, 0, 0, 0, 0) := rfl
theorem i_52_25 : ins 52 25 = some (.istore_n 3, 26, 3, 0, 0, 0) := rfl
theorem i_52_26 : ins 52 26 = some (.aload_n 0, 27, 0, 0, 0, 0) := rfl
theorem i_52_27 : ins 52 27 = some (.getfield 26, 30, 4, 4, 0, 0) := rfl
theorem i_52_30 : ins 52 30 = some (.aload_n 1, 31, 1, 0, 0, 0) := rfl
theorem i_52_31 : ins 52 31 = some (.getfield 50, 34, 0, 9, 0, 0) := rfl
theorem i_52_34 : ins 52 34 = some (.iload_n 2, 35, 2, 0, 0, 0) := rfl
theorem i_52_35 : ins 52 35 = some (.iaload, 36, 0, 0, 0, 0) := rfl
theorem i_52_36 : ins 52 36 = some (.iaload, 37, 0, 0, 0, 0) := rfl
theorem i_52_37 : ins 52 37 = some (.istore 4, 39, 4, 0, 0, 0) := rfl
theorem i_52_39 : ins 52 39 = some (.aload_n 1, 40, 1, 0, 0, 0) := rfl
theorem i_52_40 : ins 52 40 = some (.getfield 53, 43, 0, 10, 0, 0) := rfl
theorem i_52_43 : ins 52 43 = some (.iload_n 2, 44, 2, 0, 0, 0) := rfl
theorem i_52_44 : ins 52 44 = some (.iaload, 45, 0, 0, 0, 0) := rfl
theorem i_52_45 : ins 52 45 = some (.istore 5, 47, 5, 0, 0, 0) := rfl
theorem i_52_47 : ins 52 47 = some (.aload_n 1, 48, 1, 0, 0, 0) := rfl
theorem i_52_48 : ins 52 48 = some (.getfield 56, 51, 0, 6, 0, 0) := rfl
theorem i_52_51 : ins 52 51 = some (.iload_n 2, 52, 2, 0, 0, 0) := rfl
theorem i_52_52 : ins 52 52 = some (.iaload, 53, 0, 0, 0, 0) := rfl
theorem i_52_53 : ins 52 53 = some (.tableswitch 72 6 9 #[56, 72, 31, 48], 84, 0, 0, 0, 0) := rfl
theorem i_52_84 : ins 52 84 = some (.aload_n 0, 85, 0, 0, 0, 0) := rfl
theorem i_52_85 : ins 52 85 = some (.getfield 29, 88, 4, 5, 0, 0) := rfl
theorem i_52_88 : ins 52 88 = some (.iload_n 3, 89, 3, 0, 0, 0) := rfl
theorem i_52_89 : ins 52 89 = some (.iload 5, 91, 5, 0, 0, 0) := rfl
theorem i_52_91 : ins 52 91 = some (.iadd, 92, 0, 0, 0, 0) := rfl
theorem i_52_92 : ins 52 92 = some (.invokestatic 59, 95, 84, 5, 1, 0) := rfl
theorem i_52_95 : ins 52 95 = some (.iload 4, 97, 4, 0, 0, 0) := rfl
theorem i_52_97 : ins 52 97 = some (.iastore, 98, 0, 0, 0, 0) := rfl
theorem i_52_98 : ins 52 98 = some (.goto 53, 101, 151, 0, 0, 0) := rfl
theorem i_52_101 : ins 52 101 = some (.aload_n 0, 102, 0, 0, 0, 0) := rfl
theorem i_52_102 : ins 52 102 = some (.iload_n 3, 103, 3, 0, 0, 0) := rfl
theorem i_52_103 : ins 52 103 = some (.invokevirtual 63, 106, 54, 0, 2, 0) := rfl
theorem i_52_109 : ins 52 109 = some (.aload_n 0, 110, 0, 0, 0, 0) := rfl
theorem i_52_110 : ins 52 110 = some (.aload_n 1, 111, 1, 0, 0, 0) := rfl
theorem i_52_111 : ins 52 111 = some (.getfield 67, 114, 0, 7, 0, 0) := rfl
theorem i_52_114 : ins 52 114 = some (.iload_n 2, 115, 2, 0, 0, 0) := rfl
theorem i_52_115 : ins 52 115 = some (.iaload, 116, 0, 0, 0, 0) := rfl
theorem i_52_116 : ins 52 116 = some (.iload_n 3, 117, 3, 0, 0, 0) := rfl
theorem i_52_117 : ins 52 117 = some (.iload 4, 119, 4, 0, 0, 0) := rfl
theorem i_52_119 : ins 52 119 = some (.invokevirtual 70, 122, 55, 0, 4, 0) := rfl
theorem i_52_125 : ins 52 125 = some (.aload_n 0, 126, 0, 0, 0, 0) := rfl
theorem i_52_126 : ins 52 126 = some (.getfield 26, 129, 4, 4, 0, 0) := rfl
theorem i_52_129 : ins 52 129 = some (.aload_n 1, 130, 1, 0, 0, 0) := rfl
theorem i_52_130 : ins 52 130 = some (.getfield 67, 133, 0, 7, 0, 0) := rfl
theorem i_52_133 : ins 52 133 = some (.iload_n 2, 134, 2, 0, 0, 0) := rfl
theorem i_52_134 : ins 52 134 = some (.iaload, 135, 0, 0, 0, 0) := rfl
theorem i_52_135 : ins 52 135 = some (.aload_n 0, 136, 0, 0, 0, 0) := rfl
theorem i_52_136 : ins 52 136 = some (.aload_n 1, 137, 1, 0, 0, 0) := rfl
theorem i_52_137 : ins 52 137 = some (.getfield 56, 140, 0, 6, 0, 0) := rfl
theorem i_52_140 : ins 52 140 = some (.iload_n 2, 141, 2, 0, 0, 0) := rfl
theorem i_52_141 : ins 52 141 = some (.iaload, 142, 0, 0, 0, 0) := rfl
theorem i_52_142 : ins 52 142 = some (.iload_n 3, 143, 3, 0, 0, 0) := rfl
theorem i_52_143 : ins 52 143 = some (.iload 4, 145, 4, 0, 0, 0) := rfl
theorem i_52_145 : ins 52 145 = some (.iload 5, 147, 5, 0, 0, 0) := rfl
theorem i_52_147 : ins 52 147 = some (.invokevirtual 74, 150, 56, 0, 5, 0) := rfl
theorem i_52_150 : ins 52 150 = some (.iastore, 151, 0, 0, 0, 0) := rfl
theorem i_52_151 : ins 52 151 = some (.return_, 152, 0, 0, 0, 0) := rfl
theorem tg_52_53 {x : Int32} (h0 : ¬ x = 6) (h1 : ¬ x = 7) (h2 : ¬ x = 8) (h3 : ¬ x = 9) : tgtOk 53 (.tableswitch 72 6 9 #[56, 72, 31, 48]) x 125 = true := tgd (by have e0 : x.toInt ≠ 6 := fun e => h0 (Int32.toInt_inj.mp e); have e1 : x.toInt ≠ 7 := fun e => h1 (Int32.toInt_inj.mp e); have e2 : x.toInt ≠ 8 := fun e => h2 (Int32.toInt_inj.mp e); have e3 : x.toInt ≠ 9 := fun e => h3 (Int32.toInt_inj.mp e); omega) (by decide)
theorem S52_0 {Q : Ou → Prop} {M : Mem} {κ : Kp} (hκ : Rd κ) {b n k oo : Nat} (hb : isBl b) (ho : isOc oo) (hk : k < n) (hn : n ≤ 10) {O : Op} (hO : ∀ f, f < 6 → ∀ j, j < n → M (b + 1 + f) j = O f j)  {r_7 : Bool} {r_147 : Int32}
    (o1 : Run 53 (0, entL 53 [.ref oo, .int (O 5 k)], [], M, κ) (.inl (some (.int (bI r_7))), M, κ))
    (o2 : r_7 = true → vp_in (O 2 k) 12)
    (o3 : r_7 = true → vp_in (O 3 k) 12)
    (o4 : r_7 = true → ¬ ((O 0 k) = 6) → (O 0 k) = 7 → Run 56 (0, entL 56 [.ref oo, .int (O 0 k), .int (M (oo + 2) ((O 2 k).toNatClampNeg)), .int (M (oo + 2) ((O 3 k).toNatClampNeg)), .int (O 4 k)], [], M, κ) (.inl (some (.int r_147)), M, κ))
    (o5 : r_7 = true → ¬ ((O 0 k) = 6) → (O 0 k) = 7 → vp_in (O 1 k) 12)
    (o6 : r_7 = true → ¬ ((O 0 k) = 6) → ¬ ((O 0 k) = 7) → (O 0 k) = 8 → vp_in (((M (oo + 2) ((O 2 k).toNatClampNeg)) + (O 4 k)) &&& 63) 64)
    (o7 : r_7 = true → ¬ ((O 0 k) = 6) → ¬ ((O 0 k) = 7) → ¬ ((O 0 k) = 8) → ¬ ((O 0 k) = 9) → Run 56 (0, entL 56 [.ref oo, .int (O 0 k), .int (M (oo + 2) ((O 2 k).toNatClampNeg)), .int (M (oo + 2) ((O 3 k).toNatClampNeg)), .int (O 4 k)], [], M, κ) (.inl (some (.int r_147)), M, κ))
    (o8 : r_7 = true → ¬ ((O 0 k) = 6) → ¬ ((O 0 k) = 7) → ¬ ((O 0 k) = 8) → ¬ ((O 0 k) = 9) → vp_in (O 1 k) 12)
    (k1 : r_7 = true → (((¬ ((O 0 k) = 6)) ∧ ((O 0 k) = 7)) ∨ ((¬ ((O 0 k) = 6)) ∧ (¬ ((O 0 k) = 7)) ∧ ((O 0 k) = 8)) ∨ ((¬ ((O 0 k) = 6)) ∧ (¬ ((O 0 k) = 7)) ∧ (¬ ((O 0 k) = 8)) ∧ (¬ ((O 0 k) = 9)))) → Q (.inl none, (if (O 0 k) = 7 then (stM M (oo + 2) ((O 1 k).toNatClampNeg) r_147) else (if (O 0 k) = 8 then (stM M (oo + 3) ((((M (oo + 2) ((O 2 k).toNatClampNeg)) + (O 4 k)) &&& 63).toNatClampNeg) (M (oo + 2) ((O 3 k).toNatClampNeg))) else (stM M (oo + 2) ((O 1 k).toNatClampNeg) r_147))), κ))
    (k2 : r_7 = true → (O 0 k) = 6 → RT 55 (0, entL 55 [.ref oo, .int (O 1 k), .int (M (oo + 2) ((O 2 k).toNatClampNeg)), .int (M (oo + 2) ((O 3 k).toNatClampNeg))], [], M, κ) (fun o => ∃ v M1 κ1, o = (.inl v, M1, κ1) ∧ RT 52 (122, [.ref oo, .ref b, .int (nI k), .int (M (oo + 2) ((O 2 k).toNatClampNeg)), .int (M (oo + 2) ((O 3 k).toNatClampNeg)), .int (O 4 k)], v.toList ++ [], M1, κ1) Q))
    (k3 : r_7 = true → ¬ ((O 0 k) = 6) → ¬ ((O 0 k) = 7) → ¬ ((O 0 k) = 8) → (O 0 k) = 9 → RT 54 (0, entL 54 [.ref oo, .int (M (oo + 2) ((O 2 k).toNatClampNeg))], [], M, κ) (fun o => ∃ v M1 κ1, o = (.inl v, M1, κ1) ∧ RT 52 (106, [.ref oo, .ref b, .int (nI k), .int (M (oo + 2) ((O 2 k).toNatClampNeg)), .int (M (oo + 2) ((O 3 k).toNatClampNeg)), .int (O 4 k)], v.toList ++ [], M1, κ1) Q))
    (k4 : ¬ (r_7 = true) → Q (.inl none, M, κ))
    : RT 52 (0, [.ref oo, .ref b, .int (nI k), UU, UU, UU], [], M, κ) Q := by
  refine w_load i_52_0 rfl rfl ?_
  refine w_load i_52_1 rfl rfl ?_
  refine w_getR (b + 6) i_52_2 hκ (bl_ob hb) rfl rfl ?_
  refine w_load i_52_5 rfl rfl ?_
  refine w_ialdN (e := k) (v := (O 5 k)) i_52_6 hκ (bl_ar hb 6 (by decide)) (by omega) (by decide) (hO 5 (by decide) k (by omega)) ?_
  refine w_callV (i := _) i_52_7 ⟨by decide, by decide, by decide, rfl⟩ hκ (oc_ob ho) (av := [.int (O 5 k)]) (rest := []) rfl rfl (Nat.le_of_ble_eq_true rfl) (v := some (.int (bI r_7))) (o1) ?_
  refine w_if0 (r_7 = true) i_52_10 cB_ne ?_ ?_
  · intro h1
    refine w_load i_52_14 rfl rfl ?_
    refine w_getR (oo + 2) i_52_15 hκ (oc_ob ho) rfl rfl ?_
    refine w_load i_52_18 rfl rfl ?_
    refine w_getR (b + 3) i_52_19 hκ (bl_ob hb) rfl rfl ?_
    refine w_load i_52_22 rfl rfl ?_
    refine w_ialdN (e := k) (v := (O 2 k)) i_52_23 hκ (bl_ar hb 3 (by decide)) (by omega) (by decide) (hO 2 (by decide) k (by omega)) ?_
    refine w_iald (v := (M (oo + 2) ((O 2 k).toNatClampNeg))) i_52_24 hκ (oc_ar2 ho) (o2 h1) (rfl) ?_
    refine w_store (l1 := [.ref oo, .ref b, .int (nI k), .int (M (oo + 2) ((O 2 k).toNatClampNeg)), UU, UU]) i_52_25 rfl (Nat.le_of_ble_eq_true rfl) rfl ?_
    refine w_load i_52_26 rfl rfl ?_
    refine w_getR (oo + 2) i_52_27 hκ (oc_ob ho) rfl rfl ?_
    refine w_load i_52_30 rfl rfl ?_
    refine w_getR (b + 4) i_52_31 hκ (bl_ob hb) rfl rfl ?_
    refine w_load i_52_34 rfl rfl ?_
    refine w_ialdN (e := k) (v := (O 3 k)) i_52_35 hκ (bl_ar hb 4 (by decide)) (by omega) (by decide) (hO 3 (by decide) k (by omega)) ?_
    refine w_iald (v := (M (oo + 2) ((O 3 k).toNatClampNeg))) i_52_36 hκ (oc_ar2 ho) (o3 h1) (rfl) ?_
    refine w_store (l1 := [.ref oo, .ref b, .int (nI k), .int (M (oo + 2) ((O 2 k).toNatClampNeg)), .int (M (oo + 2) ((O 3 k).toNatClampNeg)), UU]) i_52_37 rfl (Nat.le_of_ble_eq_true rfl) rfl ?_
    refine w_load i_52_39 rfl rfl ?_
    refine w_getR (b + 5) i_52_40 hκ (bl_ob hb) rfl rfl ?_
    refine w_load i_52_43 rfl rfl ?_
    refine w_ialdN (e := k) (v := (O 4 k)) i_52_44 hκ (bl_ar hb 5 (by decide)) (by omega) (by decide) (hO 4 (by decide) k (by omega)) ?_
    refine w_store (l1 := [.ref oo, .ref b, .int (nI k), .int (M (oo + 2) ((O 2 k).toNatClampNeg)), .int (M (oo + 2) ((O 3 k).toNatClampNeg)), .int (O 4 k)]) i_52_45 rfl (Nat.le_of_ble_eq_true rfl) rfl ?_
    refine w_load i_52_47 rfl rfl ?_
    refine w_getR (b + 1) i_52_48 hκ (bl_ob hb) rfl rfl ?_
    refine w_load i_52_51 rfl rfl ?_
    refine w_ialdN (e := k) (v := (O 0 k)) i_52_52 hκ (bl_ar hb 1 (by decide)) (by omega) (by decide) (hO 0 (by decide) k (by omega)) ?_
    have K2 : (((¬ ((O 0 k) = 6)) ∧ ((O 0 k) = 7)) ∨ ((¬ ((O 0 k) = 6)) ∧ (¬ ((O 0 k) = 7)) ∧ ((O 0 k) = 8)) ∨ ((¬ ((O 0 k) = 6)) ∧ (¬ ((O 0 k) = 7)) ∧ (¬ ((O 0 k) = 8)) ∧ (¬ ((O 0 k) = 9)))) → RT 52 (151, [.ref oo, .ref b, .int (nI k), .int (M (oo + 2) ((O 2 k).toNatClampNeg)), .int (M (oo + 2) ((O 3 k).toNatClampNeg)), .int (O 4 k)], [], (if (O 0 k) = 7 then (stM M (oo + 2) ((O 1 k).toNatClampNeg) r_147) else (if (O 0 k) = 8 then (stM M (oo + 3) ((((M (oo + 2) ((O 2 k).toNatClampNeg)) + (O 4 k)) &&& 63).toNatClampNeg) (M (oo + 2) ((O 3 k).toNatClampNeg))) else (stM M (oo + 2) ((O 1 k).toNatClampNeg) r_147))), κ) Q := by
      intro h3
      exact w_vret i_52_151 rfl (k1 h1 h3)
    by_cases h4 : (O 0 k) = 6
    · refine w_table 109 i_52_53 (by rw [h4]; rfl) ?_
      refine w_load i_52_109 rfl rfl ?_
      refine w_load i_52_110 rfl rfl ?_
      refine w_getR (b + 2) i_52_111 hκ (bl_ob hb) rfl rfl ?_
      refine w_load i_52_114 rfl rfl ?_
      refine w_ialdN (e := k) (v := (O 1 k)) i_52_115 hκ (bl_ar hb 2 (by decide)) (by omega) (by decide) (hO 1 (by decide) k (by omega)) ?_
      refine w_load i_52_116 rfl rfl ?_
      refine w_load i_52_117 rfl rfl ?_
      exact w_callVI (i := _) i_52_119 ⟨by decide, by decide, by decide, rfl⟩ hκ (oc_ob ho) (av := [.int (O 1 k), .int (M (oo + 2) ((O 2 k).toNatClampNeg)), .int (M (oo + 2) ((O 3 k).toNatClampNeg))]) (rest := []) rfl rfl (Nat.le_of_ble_eq_true rfl) (k2 h1 h4)
    · have h5 := h4
      by_cases h6 : (O 0 k) = 7
      · refine w_table 125 i_52_53 (by rw [h6]; rfl) ?_
        refine w_load i_52_125 rfl rfl ?_
        refine w_getR (oo + 2) i_52_126 hκ (oc_ob ho) rfl rfl ?_
        refine w_load i_52_129 rfl rfl ?_
        refine w_getR (b + 2) i_52_130 hκ (bl_ob hb) rfl rfl ?_
        refine w_load i_52_133 rfl rfl ?_
        refine w_ialdN (e := k) (v := (O 1 k)) i_52_134 hκ (bl_ar hb 2 (by decide)) (by omega) (by decide) (hO 1 (by decide) k (by omega)) ?_
        refine w_load i_52_135 rfl rfl ?_
        refine w_load i_52_136 rfl rfl ?_
        refine w_getR (b + 1) i_52_137 hκ (bl_ob hb) rfl rfl ?_
        refine w_load i_52_140 rfl rfl ?_
        refine w_ialdN (e := k) (v := (O 0 k)) i_52_141 hκ (bl_ar hb 1 (by decide)) (by omega) (by decide) (hO 0 (by decide) k (by omega)) ?_
        refine w_load i_52_142 rfl rfl ?_
        refine w_load i_52_143 rfl rfl ?_
        refine w_load i_52_145 rfl rfl ?_
        refine w_callV (i := _) i_52_147 ⟨by decide, by decide, by decide, rfl⟩ hκ (oc_ob ho) (av := [.int (O 0 k), .int (M (oo + 2) ((O 2 k).toNatClampNeg)), .int (M (oo + 2) ((O 3 k).toNatClampNeg)), .int (O 4 k)]) (rest := [.int (O 1 k), .ref (oo + 2)]) rfl rfl (Nat.le_of_ble_eq_true rfl) (v := some (.int r_147)) (o4 h1 h5 h6) ?_
        refine w_iast i_52_150 hκ (oc_ar2 ho) (o5 h1 h5 h6) ?_
        exact (by first | exact (K2 (.inl ⟨h5, h6⟩)) | (have K9 := K2 (.inl ⟨h5, h6⟩); simp only [↓if_neg h5, ↓if_pos h6] at K9 ⊢; exact (K9)))
      · have h7 := h6
        by_cases h8 : (O 0 k) = 8
        · refine w_table 84 i_52_53 (by rw [h8]; rfl) ?_
          refine w_load i_52_84 rfl rfl ?_
          refine w_getR (oo + 3) i_52_85 hκ (oc_ob ho) rfl rfl ?_
          refine w_load i_52_88 rfl rfl ?_
          refine w_load i_52_89 rfl rfl ?_
          refine w_bin (w := ((M (oo + 2) ((O 2 k).toNatClampNeg)) + (O 4 k))) i_52_91 rfl rfl ?_
          refine w_callS i_52_92 ⟨by decide, by decide, by decide, rfl, rfl⟩ (av := [.int ((M (oo + 2) ((O 2 k).toNatClampNeg)) + (O 4 k))]) (rest := [.ref (oo + 3)]) rfl rfl (Nat.le_of_ble_eq_true rfl) (v := some (.int (((M (oo + 2) ((O 2 k).toNatClampNeg)) + (O 4 k)) &&& 63))) (c84 hκ) ?_
          refine w_load i_52_95 rfl rfl ?_
          refine w_iast i_52_97 hκ (oc_ar3 ho) (o6 h1 h5 h7 h8) ?_
          refine w_goto i_52_98 ?_
          exact (by first | exact (K2 (.inr (.inl ⟨h5, h7, h8⟩))) | (have K9 := K2 (.inr (.inl ⟨h5, h7, h8⟩)); simp only [↓if_neg h5, ↓if_neg h7, ↓if_pos h8] at K9 ⊢; exact (K9)))
        · have h9 := h8
          by_cases h10 : (O 0 k) = 9
          · refine w_table 101 i_52_53 (by rw [h10]; rfl) ?_
            refine w_load i_52_101 rfl rfl ?_
            refine w_load i_52_102 rfl rfl ?_
            exact w_callVI (i := _) i_52_103 ⟨by decide, by decide, by decide, rfl⟩ hκ (oc_ob ho) (av := [.int (M (oo + 2) ((O 2 k).toNatClampNeg))]) (rest := []) rfl rfl (Nat.le_of_ble_eq_true rfl) (k3 h1 h5 h7 h9 h10)
          · have h11 := h10
            refine w_table 125 i_52_53 (tg_52_53 h5 h7 h9 h11) ?_
            refine w_load i_52_125 rfl rfl ?_
            refine w_getR (oo + 2) i_52_126 hκ (oc_ob ho) rfl rfl ?_
            refine w_load i_52_129 rfl rfl ?_
            refine w_getR (b + 2) i_52_130 hκ (bl_ob hb) rfl rfl ?_
            refine w_load i_52_133 rfl rfl ?_
            refine w_ialdN (e := k) (v := (O 1 k)) i_52_134 hκ (bl_ar hb 2 (by decide)) (by omega) (by decide) (hO 1 (by decide) k (by omega)) ?_
            refine w_load i_52_135 rfl rfl ?_
            refine w_load i_52_136 rfl rfl ?_
            refine w_getR (b + 1) i_52_137 hκ (bl_ob hb) rfl rfl ?_
            refine w_load i_52_140 rfl rfl ?_
            refine w_ialdN (e := k) (v := (O 0 k)) i_52_141 hκ (bl_ar hb 1 (by decide)) (by omega) (by decide) (hO 0 (by decide) k (by omega)) ?_
            refine w_load i_52_142 rfl rfl ?_
            refine w_load i_52_143 rfl rfl ?_
            refine w_load i_52_145 rfl rfl ?_
            refine w_callV (i := _) i_52_147 ⟨by decide, by decide, by decide, rfl⟩ hκ (oc_ob ho) (av := [.int (O 0 k), .int (M (oo + 2) ((O 2 k).toNatClampNeg)), .int (M (oo + 2) ((O 3 k).toNatClampNeg)), .int (O 4 k)]) (rest := [.int (O 1 k), .ref (oo + 2)]) rfl rfl (Nat.le_of_ble_eq_true rfl) (v := some (.int r_147)) (o7 h1 h5 h7 h9 h11) ?_
            refine w_iast i_52_150 hκ (oc_ar2 ho) (o8 h1 h5 h7 h9 h11) ?_
            exact (by first | exact (K2 (.inr (.inr ⟨h5, h7, h9, h11⟩))) | (have K9 := K2 (.inr (.inr ⟨h5, h7, h9, h11⟩)); simp only [↓if_neg h5, ↓if_neg h7, ↓if_neg h9, ↓if_neg h11] at K9 ⊢; exact (K9)))
  · intro h13
    exact w_vret i_52_13 rfl (k4 h13)
theorem i_52_106 : ins 52 106 = some (.goto 45, 109, 151, 0, 0, 0) := rfl
theorem i_52_122 : ins 52 122 = some (.goto 29, 125, 151, 0, 0, 0) := rfl
theorem S52_106 {Q : Ou → Prop} {M : Mem} {κ : Kp} (hκ : Rd κ)  
    (k1 : Q (.inl none, M, κ))
    : RT 52 (106, [UU, UU, UU, UU, UU, UU], [], M, κ) Q := by
  refine w_goto i_52_106 ?_
  exact w_vret i_52_151 rfl (k1)
theorem S52_122 {Q : Ou → Prop} {M : Mem} {κ : Kp} (hκ : Rd κ)  
    (k1 : Q (.inl none, M, κ))
    : RT 52 (122, [UU, UU, UU, UU, UU, UU], [], M, κ) Q := by
  refine w_goto i_52_122 ?_
  exact w_vret i_52_151 rfl (k1)
theorem i_138_0 : ins 138 0 = some (.aload_n 0, 1, 0, 0, 0, 0) := rfl
theorem i_138_1 : ins 138 1 = some (.getfield 96, 4, 7, 32, 0, 0) := rfl
theorem i_138_4 : ins 138 4 = some (.iload_n 1, 5, 1, 0, 0, 0) := rfl
theorem i_138_5 : ins 138 5 = some (.iaload, 6, 0, 0, 0, 0) := rfl
theorem i_138_6 : ins 138 6 = some (.ifCond .eq 47, 9, 53, 0, 0, 0) := rfl
theorem i_138_9 : ins 138 9 = some (.aload_n 0, 10, 0, 0, 0, 0) := rfl
theorem i_138_10 : ins 138 10 = some (.getfield 96, 13, 7, 32, 0, 0) := rfl
theorem i_138_13 : ins 138 13 = some (.iload_n 1, 14, 1, 0, 0, 0) := rfl
theorem i_138_14 : ins 138 14 = some (.iaload, 15, 0, 0, 0, 0) := rfl
theorem i_138_15 : ins 138 15 = some (.ifCond .le 22, 18, 37, 0, 0, 0) := rfl
theorem i_138_18 : ins 138 18 = some (.aload_n 0, 19, 0, 0, 0, 0) := rfl
theorem i_138_19 : ins 138 19 = some (.getfield 147, 22, 7, 49, 0, 0) := rfl
theorem i_138_22 : ins 138 22 = some (.aload_n 0, 23, 0, 0, 0, 0) := rfl
theorem i_138_23 : ins 138 23 = some (.getfield 96, 26, 7, 32, 0, 0) := rfl
theorem i_138_26 : ins 138 26 = some (.iload_n 1, 27, 1, 0, 0, 0) := rfl
theorem i_138_27 : ins 138 27 = some (.iaload, 28, 0, 0, 0, 0) := rfl
theorem i_138_28 : ins 138 28 = some (.iconst 1, 29, 0, 0, 0, 1) := rfl
theorem i_138_29 : ins 138 29 = some (.isub, 30, 0, 0, 0, 0) := rfl
theorem i_138_30 : ins 138 30 = some (.iaload, 31, 0, 0, 0, 0) := rfl
theorem i_138_31 : ins 138 31 = some (.ifCond .eq 26, 34, 57, 0, 0, 0) := rfl
theorem i_138_34 : ins 138 34 = some (.goto 19, 37, 53, 0, 0, 0) := rfl
theorem i_138_37 : ins 138 37 = some (.aload_n 0, 38, 0, 0, 0, 0) := rfl
theorem i_138_38 : ins 138 38 = some (.getfield 147, 41, 7, 49, 0, 0) := rfl
theorem i_138_41 : ins 138 41 = some (.iconst (-1), 42, 0, 0, 0, (-1)) := rfl
theorem i_138_42 : ins 138 42 = some (.aload_n 0, 43, 0, 0, 0, 0) := rfl
theorem i_138_43 : ins 138 43 = some (.getfield 96, 46, 7, 32, 0, 0) := rfl
theorem i_138_46 : ins 138 46 = some (.iload_n 1, 47, 1, 0, 0, 0) := rfl
theorem i_138_47 : ins 138 47 = some (.iaload, 48, 0, 0, 0, 0) := rfl
theorem i_138_48 : ins 138 48 = some (.isub, 49, 0, 0, 0, 0) := rfl
theorem i_138_49 : ins 138 49 = some (.iaload, 50, 0, 0, 0, 0) := rfl
theorem i_138_50 : ins 138 50 = some (.ifCond .ne 7, 53, 57, 0, 0, 0) := rfl
theorem i_138_53 : ins 138 53 = some (.iconst 1, 54, 0, 0, 0, 1) := rfl
theorem i_138_54 : ins 138 54 = some (.goto 4, 57, 58, 0, 0, 0) := rfl
theorem i_138_57 : ins 138 57 = some (.iconst 0, 58, 0, 0, 0, 0) := rfl
theorem i_138_58 : ins 138 58 = some (.ireturn, 59, 0, 0, 0, 0) := rfl
theorem S138_0 {Q : Ou → Prop} {M : Mem} {κ : Kp} (hκ : Rd κ) {x k n : Nat} (hx : x < 6) (hk : k < n) (hn : n ≤ 10) {O : Op} (hO : ∀ f, f < 6 → ∀ j, j < n → M (152 + f) (10 * x + j) = O f j) 
    (o1 : ¬ ((O 5 k) = 0) → 0 < (O 5 k) → vp_in ((O 5 k) - 1) 12)
    (o2 : ¬ ((O 5 k) = 0) → ¬ (0 < (O 5 k)) → vp_in ((-1) - (O 5 k)) 12)
    (k1 : Q (.inl (some (.int (bI (if (O 5 k) = 0 then true else (if 0 < (O 5 k) then (if (M 174 (((O 5 k) - 1).toNatClampNeg)) = 0 then false else true) else (if (M 174 (((-1) - (O 5 k)).toNatClampNeg)) = 0 then true else false)))))), M, κ))
    : RT 138 (0, [.ref 134, .int (nI ((10 * x) + k))], [], M, κ) Q := by
  refine w_load i_138_0 rfl rfl ?_
  refine w_getR 157 i_138_1 hκ (⟨rfl, by decide⟩ : isOb 134 7) rfl rfl ?_
  refine w_load i_138_4 rfl rfl ?_
  refine w_ialdN (e := ((10 * x) + k)) (v := (O 5 k)) i_138_5 hκ (⟨rfl, rfl, by decide⟩ : isAr 157 60) (by omega) (by decide) (hO 5 (by decide) k (by omega)) ?_
  have K1 : RT 138 (58, [.ref 134, .int (nI ((10 * x) + k))], [.int (bI (if (O 5 k) = 0 then true else (if 0 < (O 5 k) then (if (M 174 (((O 5 k) - 1).toNatClampNeg)) = 0 then false else true) else (if (M 174 (((-1) - (O 5 k)).toNatClampNeg)) = 0 then true else false))))], M, κ) Q := by
    exact w_iret i_138_58 (.inr ⟨rfl, isB_bI _⟩) (k1)
  refine w_if0 ((O 5 k) = 0) i_138_6 cI0_eq ?_ ?_
  · intro h2
    refine w_push i_138_53 rfl ?_
    refine w_goto i_138_54 ?_
    exact (by first | exact (K1) | (have K9 := K1; simp only [↓if_pos h2] at K9 ⊢; exact (K9)))
  · intro h3
    refine w_load i_138_9 rfl rfl ?_
    refine w_getR 157 i_138_10 hκ (⟨rfl, by decide⟩ : isOb 134 7) rfl rfl ?_
    refine w_load i_138_13 rfl rfl ?_
    refine w_ialdN (e := ((10 * x) + k)) (v := (O 5 k)) i_138_14 hκ (⟨rfl, rfl, by decide⟩ : isAr 157 60) (by omega) (by decide) (hO 5 (by decide) k (by omega)) ?_
    refine w_if0n (0 < (O 5 k)) i_138_15 cI0_le ?_ ?_
    · intro h4
      refine w_load i_138_18 rfl rfl ?_
      refine w_getR 174 i_138_19 hκ (⟨rfl, by decide⟩ : isOb 134 7) rfl rfl ?_
      refine w_load i_138_22 rfl rfl ?_
      refine w_getR 157 i_138_23 hκ (⟨rfl, by decide⟩ : isOb 134 7) rfl rfl ?_
      refine w_load i_138_26 rfl rfl ?_
      refine w_ialdN (e := ((10 * x) + k)) (v := (O 5 k)) i_138_27 hκ (⟨rfl, rfl, by decide⟩ : isAr 157 60) (by omega) (by decide) (hO 5 (by decide) k (by omega)) ?_
      refine w_push i_138_28 rfl ?_
      refine w_bin (w := ((O 5 k) - 1)) i_138_29 rfl rfl ?_
      refine w_iald (v := (M 174 (((O 5 k) - 1).toNatClampNeg))) i_138_30 hκ (⟨rfl, rfl, by decide⟩ : isAr 174 12) (o1 h3 h4) (rfl) ?_
      refine w_if0 ((M 174 (((O 5 k) - 1).toNatClampNeg)) = 0) i_138_31 cI0_eq ?_ ?_
      · intro h5
        refine w_push i_138_57 rfl ?_
        exact (by first | exact (K1) | (have K9 := K1; simp only [↓if_neg h3, ↓if_pos h4, ↓if_pos h5] at K9 ⊢; exact (K9)))
      · intro h6
        refine w_goto i_138_34 ?_
        refine w_push i_138_53 rfl ?_
        refine w_goto i_138_54 ?_
        exact (by first | exact (K1) | (have K9 := K1; simp only [↓if_neg h3, ↓if_pos h4, ↓if_neg h6] at K9 ⊢; exact (K9)))
    · intro h7
      refine w_load i_138_37 rfl rfl ?_
      refine w_getR 174 i_138_38 hκ (⟨rfl, by decide⟩ : isOb 134 7) rfl rfl ?_
      refine w_push i_138_41 rfl ?_
      refine w_load i_138_42 rfl rfl ?_
      refine w_getR 157 i_138_43 hκ (⟨rfl, by decide⟩ : isOb 134 7) rfl rfl ?_
      refine w_load i_138_46 rfl rfl ?_
      refine w_ialdN (e := ((10 * x) + k)) (v := (O 5 k)) i_138_47 hκ (⟨rfl, rfl, by decide⟩ : isAr 157 60) (by omega) (by decide) (hO 5 (by decide) k (by omega)) ?_
      refine w_bin (w := ((-1) - (O 5 k))) i_138_48 rfl rfl ?_
      refine w_iald (v := (M 174 (((-1) - (O 5 k)).toNatClampNeg))) i_138_49 hκ (⟨rfl, rfl, by decide⟩ : isAr 174 12) (o2 h3 h7) (rfl) ?_
      refine w_if0n ((M 174 (((-1) - (O 5 k)).toNatClampNeg)) = 0) i_138_50 cI0_ne ?_ ?_
      · intro h8
        refine w_push i_138_53 rfl ?_
        refine w_goto i_138_54 ?_
        exact (by first | exact (K1) | (have K9 := K1; simp only [↓if_neg h3, ↓if_neg h7, ↓if_pos h8] at K9 ⊢; exact (K9)))
      · intro h9
        refine w_push i_138_57 rfl ?_
        exact (by first | exact (K1) | (have K9 := K1; simp only [↓if_neg h3, ↓if_neg h7, ↓if_neg h9] at K9 ⊢; exact (K9)))
theorem i_139_0 : ins 139 0 = some (.aload_n 0, 1, 0, 0, 0, 0) := rfl
theorem i_139_1 : ins 139 1 = some (.iload_n 1, 2, 1, 0, 0, 0) := rfl
theorem i_139_2 : ins 139 2 = some (.invokevirtual 294, 5, 138, 0, 2, 0) := rfl
theorem i_139_5 : ins 139 5 = some (.ifCond .ne 5, 8, 10, 0, 0, 0) := rfl
theorem i_139_8 : ins 139 8 = some (.iconst 1, 9, 0, 0, 0, 1) := rfl
theorem i_139_9 : ins 139 9 = some (.ireturn, 10, 0, 0, 0, 0) := rfl
theorem i_139_10 : ins 139 10 = some (.aload_n 0, 11, 0, 0, 0, 0) := rfl
theorem i_139_11 : ins 139 11 = some (.getfield 147, 14, 7, 49, 0, 0) := rfl
theorem i_139_14 : ins 139 14 = some (.aload_n 0, 15, 0, 0, 0, 0) := rfl
theorem i_139_15 : ins 139 15 = some (.getfield 87, 18, 7, 29, 0, 0) := rfl
theorem i_139_18 : ins 139 18 = some (.iload_n 1, 19, 1, 0, 0, 0) := rfl
theorem i_139_19 : ins 139 19 = some (.iaload, 20, 0, 0, 0, 0) := rfl
theorem i_139_20 : ins 139 20 = some (.iaload, 21, 0, 0, 0, 0) := rfl
theorem i_139_21 : ins 139 21 = some (.istore_n 2, 22, 2, 0, 0, 0) := rfl
theorem i_139_22 : ins 139 22 = some (.aload_n 0, 23, 0, 0, 0, 0) := rfl
theorem i_139_23 : ins 139 23 = some (.getfield 147, 26, 7, 49, 0, 0) := rfl
theorem i_139_26 : ins 139 26 = some (.aload_n 0, 27, 0, 0, 0, 0) := rfl
theorem i_139_27 : ins 139 27 = some (.getfield 90, 30, 7, 30, 0, 0) := rfl
theorem i_139_30 : ins 139 30 = some (.iload_n 1, 31, 1, 0, 0, 0) := rfl
theorem i_139_31 : ins 139 31 = some (.iaload, 32, 0, 0, 0, 0) := rfl
theorem i_139_32 : ins 139 32 = some (.iaload, 33, 0, 0, 0, 0) := rfl
theorem i_139_33 : ins 139 33 = some (.istore_n 3, 34, 3, 0, 0, 0) := rfl
theorem i_139_34 : ins 139 34 = some (.iload_n 2, 35, 2, 0, 0, 0) := rfl
theorem i_139_35 : ins 139 35 = some (.aload_n 0, 36, 0, 0, 0, 0) := rfl
theorem i_139_36 : ins 139 36 = some (.getfield 93, 39, 7, 31, 0, 0) := rfl
theorem i_139_39 : ins 139 39 = some (.iload_n 1, 40, 1, 0, 0, 0) := rfl
theorem i_139_40 : ins 139 40 = some (.iaload, 41, 0, 0, 0, 0) := rfl
theorem i_139_41 : ins 139 41 = some (.iadd, 42, 0, 0, 0, 0) := rfl
theorem i_139_42 : ins 139 42 = some (.bipush 63, 44, 0, 0, 0, 63) := rfl
theorem i_139_44 : ins 139 44 = some (.iand, 45, 0, 0, 0, 0) := rfl
theorem i_139_45 : ins 139 45 = some (.istore 4, 47, 4, 0, 0, 0) := rfl
theorem i_139_47 : ins 139 47 = some (.aload_n 0, 48, 0, 0, 0, 0) := rfl
theorem i_139_48 : ins 139 48 = some (.getfield 81, 51, 7, 27, 0, 0) := rfl
theorem i_139_51 : ins 139 51 = some (.iload_n 1, 52, 1, 0, 0, 0) := rfl
theorem i_139_52 : ins 139 52 = some (.iaload, 53, 0, 0, 0, 0) := rfl
theorem i_139_53 : ins 139 53 = some (.tableswitch 223 0 8 #[51, 71, 93, 110, 127, 144, 168, 191, 212], 104, 0, 0, 0, 0) := rfl
theorem i_139_104 : ins 139 104 = some (.aload_n 0, 105, 0, 0, 0, 0) := rfl
theorem i_139_105 : ins 139 105 = some (.getfield 147, 108, 7, 49, 0, 0) := rfl
theorem i_139_108 : ins 139 108 = some (.aload_n 0, 109, 0, 0, 0, 0) := rfl
theorem i_139_109 : ins 139 109 = some (.getfield 84, 112, 7, 28, 0, 0) := rfl
theorem i_139_112 : ins 139 112 = some (.iload_n 1, 113, 1, 0, 0, 0) := rfl
theorem i_139_113 : ins 139 113 = some (.iaload, 114, 0, 0, 0, 0) := rfl
theorem i_139_114 : ins 139 114 = some (.aload_n 0, 115, 0, 0, 0, 0) := rfl
theorem i_139_115 : ins 139 115 = some (.getfield 93, 118, 7, 31, 0, 0) := rfl
theorem i_139_118 : ins 139 118 = some (.iload_n 1, 119, 1, 0, 0, 0) := rfl
theorem i_139_119 : ins 139 119 = some (.iaload, 120, 0, 0, 0, 0) := rfl
theorem i_139_120 : ins 139 120 = some (.iastore, 121, 0, 0, 0, 0) := rfl
theorem i_139_121 : ins 139 121 = some (.goto 187, 124, 308, 0, 0, 0) := rfl
theorem i_139_124 : ins 139 124 = some (.aload_n 0, 125, 0, 0, 0, 0) := rfl
theorem i_139_125 : ins 139 125 = some (.getfield 147, 128, 7, 49, 0, 0) := rfl
theorem i_139_128 : ins 139 128 = some (.aload_n 0, 129, 0, 0, 0, 0) := rfl
theorem i_139_129 : ins 139 129 = some (.getfield 84, 132, 7, 28, 0, 0) := rfl
theorem i_139_132 : ins 139 132 = some (.iload_n 1, 133, 1, 0, 0, 0) := rfl
theorem i_139_133 : ins 139 133 = some (.iaload, 134, 0, 0, 0, 0) := rfl
theorem i_139_134 : ins 139 134 = some (.iload_n 2, 135, 2, 0, 0, 0) := rfl
theorem i_139_135 : ins 139 135 = some (.aload_n 0, 136, 0, 0, 0, 0) := rfl
theorem i_139_136 : ins 139 136 = some (.getfield 93, 139, 7, 31, 0, 0) := rfl
theorem i_139_139 : ins 139 139 = some (.iload_n 1, 140, 1, 0, 0, 0) := rfl
theorem i_139_140 : ins 139 140 = some (.iaload, 141, 0, 0, 0, 0) := rfl
theorem i_139_141 : ins 139 141 = some (.iadd, 142, 0, 0, 0, 0) := rfl
theorem i_139_142 : ins 139 142 = some (.iastore, 143, 0, 0, 0, 0) := rfl
theorem i_139_143 : ins 139 143 = some (.goto 165, 146, 308, 0, 0, 0) := rfl
theorem i_139_146 : ins 139 146 = some (.aload_n 0, 147, 0, 0, 0, 0) := rfl
theorem i_139_147 : ins 139 147 = some (.getfield 147, 150, 7, 49, 0, 0) := rfl
theorem i_139_150 : ins 139 150 = some (.aload_n 0, 151, 0, 0, 0, 0) := rfl
theorem i_139_151 : ins 139 151 = some (.getfield 84, 154, 7, 28, 0, 0) := rfl
theorem i_139_154 : ins 139 154 = some (.iload_n 1, 155, 1, 0, 0, 0) := rfl
theorem i_139_155 : ins 139 155 = some (.iaload, 156, 0, 0, 0, 0) := rfl
theorem i_139_156 : ins 139 156 = some (.iload_n 2, 157, 2, 0, 0, 0) := rfl
theorem i_139_157 : ins 139 157 = some (.iload_n 3, 158, 3, 0, 0, 0) := rfl
theorem i_139_158 : ins 139 158 = some (.iadd, 159, 0, 0, 0, 0) := rfl
theorem i_139_159 : ins 139 159 = some (.iastore, 160, 0, 0, 0, 0) := rfl
theorem i_139_160 : ins 139 160 = some (.goto 148, 163, 308, 0, 0, 0) := rfl
theorem i_139_163 : ins 139 163 = some (.aload_n 0, 164, 0, 0, 0, 0) := rfl
theorem i_139_164 : ins 139 164 = some (.getfield 147, 167, 7, 49, 0, 0) := rfl
theorem i_139_167 : ins 139 167 = some (.aload_n 0, 168, 0, 0, 0, 0) := rfl
theorem i_139_168 : ins 139 168 = some (.getfield 84, 171, 7, 28, 0, 0) := rfl
theorem i_139_171 : ins 139 171 = some (.iload_n 1, 172, 1, 0, 0, 0) := rfl
theorem i_139_172 : ins 139 172 = some (.iaload, 173, 0, 0, 0, 0) := rfl
theorem i_139_173 : ins 139 173 = some (.iload_n 2, 174, 2, 0, 0, 0) := rfl
theorem i_139_174 : ins 139 174 = some (.iload_n 3, 175, 3, 0, 0, 0) := rfl
theorem i_139_175 : ins 139 175 = some (.isub, 176, 0, 0, 0, 0) := rfl
theorem i_139_176 : ins 139 176 = some (.iastore, 177, 0, 0, 0, 0) := rfl
theorem i_139_177 : ins 139 177 = some (.goto 131, 180, 308, 0, 0, 0) := rfl
theorem i_139_180 : ins 139 180 = some (.aload_n 0, 181, 0, 0, 0, 0) := rfl
theorem i_139_181 : ins 139 181 = some (.getfield 147, 184, 7, 49, 0, 0) := rfl
theorem i_139_184 : ins 139 184 = some (.aload_n 0, 185, 0, 0, 0, 0) := rfl
theorem i_139_185 : ins 139 185 = some (.getfield 84, 188, 7, 28, 0, 0) := rfl
theorem i_139_188 : ins 139 188 = some (.iload_n 1, 189, 1, 0, 0, 0) := rfl
theorem i_139_189 : ins 139 189 = some (.iaload, 190, 0, 0, 0, 0) := rfl
theorem i_139_190 : ins 139 190 = some (.iload_n 2, 191, 2, 0, 0, 0) := rfl
theorem i_139_191 : ins 139 191 = some (.iload_n 3, 192, 3, 0, 0, 0) := rfl
theorem i_139_192 : ins 139 192 = some (.imul, 193, 0, 0, 0, 0) := rfl
theorem i_139_193 : ins 139 193 = some (.iastore, 194, 0, 0, 0, 0) := rfl
theorem i_139_194 : ins 139 194 = some (.goto 114, 197, 308, 0, 0, 0) := rfl
theorem i_139_197 : ins 139 197 = some (.aload_n 0, 198, 0, 0, 0, 0) := rfl
theorem i_139_198 : ins 139 198 = some (.getfield 147, 201, 7, 49, 0, 0) := rfl
theorem i_139_201 : ins 139 201 = some (.aload_n 0, 202, 0, 0, 0, 0) := rfl
theorem i_139_202 : ins 139 202 = some (.getfield 84, 205, 7, 28, 0, 0) := rfl
theorem i_139_205 : ins 139 205 = some (.iload_n 1, 206, 1, 0, 0, 0) := rfl
theorem i_139_206 : ins 139 206 = some (.iaload, 207, 0, 0, 0, 0) := rfl
theorem i_139_207 : ins 139 207 = some (.iload_n 2, 208, 2, 0, 0, 0) := rfl
theorem i_139_208 : ins 139 208 = some (.iload_n 3, 209, 3, 0, 0, 0) := rfl
theorem i_139_209 : ins 139 209 = some (.if_icmp .ge 7, 212, 216, 0, 0, 0) := rfl
theorem i_139_212 : ins 139 212 = some (.iconst 1, 213, 0, 0, 0, 1) := rfl
theorem i_139_213 : ins 139 213 = some (.goto 4, 216, 217, 0, 0, 0) := rfl
theorem i_139_216 : ins 139 216 = some (.iconst 0, 217, 0, 0, 0, 0) := rfl
theorem i_139_217 : ins 139 217 = some (.iastore, 218, 0, 0, 0, 0) := rfl
theorem i_139_218 : ins 139 218 = some (.goto 90, 221, 308, 0, 0, 0) := rfl
theorem i_139_221 : ins 139 221 = some (.iload_n 3, 222, 3, 0, 0, 0) := rfl
theorem i_139_222 : ins 139 222 = some (.ifCond .ne 5, 225, 227, 0, 0, 0) := rfl
theorem i_139_225 : ins 139 225 = some (.iconst 0, 226, 0, 0, 0, 0) := rfl
theorem i_139_226 : ins 139 226 = some (.ireturn, 227, 0, 0, 0, 0) := rfl
theorem i_139_227 : ins 139 227 = some (.aload_n 0, 228, 0, 0, 0, 0) := rfl
theorem i_139_228 : ins 139 228 = some (.getfield 147, 231, 7, 49, 0, 0) := rfl
theorem i_139_231 : ins 139 231 = some (.aload_n 0, 232, 0, 0, 0, 0) := rfl
theorem i_139_232 : ins 139 232 = some (.getfield 84, 235, 7, 28, 0, 0) := rfl
theorem i_139_235 : ins 139 235 = some (.iload_n 1, 236, 1, 0, 0, 0) := rfl
theorem i_139_236 : ins 139 236 = some (.iaload, 237, 0, 0, 0, 0) := rfl
theorem i_139_237 : ins 139 237 = some (.iload_n 2, 238, 2, 0, 0, 0) := rfl
theorem i_139_238 : ins 139 238 = some (.iload_n 3, 239, 3, 0, 0, 0) := rfl
theorem i_139_239 : ins 139 239 = some (.idiv, 240, 0, 0, 0, 0) := rfl
theorem i_139_240 : ins 139 240 = some (.iastore, 241, 0, 0, 0, 0) := rfl
theorem i_139_241 : ins 139 241 = some (.goto 67, 244, 308, 0, 0, 0) := rfl
theorem i_139_244 : ins 139 244 = some (.aload_n 0, 245, 0, 0, 0, 0) := rfl
theorem i_139_245 : ins 139 245 = some (.getfield 147, 248, 7, 49, 0, 0) := rfl
theorem i_139_248 : ins 139 248 = some (.aload_n 0, 249, 0, 0, 0, 0) := rfl
theorem i_139_249 : ins 139 249 = some (.getfield 84, 252, 7, 28, 0, 0) := rfl
theorem i_139_252 : ins 139 252 = some (.iload_n 1, 253, 1, 0, 0, 0) := rfl
theorem i_139_253 : ins 139 253 = some (.iaload, 254, 0, 0, 0, 0) := rfl
theorem i_139_254 : ins 139 254 = some (.aload_n 0, 255, 0, 0, 0, 0) := rfl
theorem i_139_255 : ins 139 255 = some (.getfield 144, 258, 7, 48, 0, 0) := rfl
theorem i_139_258 : ins 139 258 = some (.iload 4, 260, 4, 0, 0, 0) := rfl
theorem i_139_260 : ins 139 260 = some (.iaload, 261, 0, 0, 0, 0) := rfl
theorem i_139_261 : ins 139 261 = some (.iastore, 262, 0, 0, 0, 0) := rfl
theorem i_139_262 : ins 139 262 = some (.goto 46, 265, 308, 0, 0, 0) := rfl
theorem i_139_265 : ins 139 265 = some (.aload_n 0, 266, 0, 0, 0, 0) := rfl
theorem i_139_266 : ins 139 266 = some (.getfield 144, 269, 7, 48, 0, 0) := rfl
theorem i_139_269 : ins 139 269 = some (.iload 4, 271, 4, 0, 0, 0) := rfl
theorem i_139_271 : ins 139 271 = some (.iload_n 3, 272, 3, 0, 0, 0) := rfl
theorem i_139_272 : ins 139 272 = some (.iastore, 273, 0, 0, 0, 0) := rfl
theorem i_139_273 : ins 139 273 = some (.goto 35, 276, 308, 0, 0, 0) := rfl
theorem i_139_276 : ins 139 276 = some (.aload_n 0, 277, 0, 0, 0, 0) := rfl
theorem i_139_277 : ins 139 277 = some (.getfield 156, 280, 7, 52, 0, 0) := rfl
theorem i_139_280 : ins 139 280 = some (.arraylength, 281, 0, 0, 0, 0) := rfl
theorem i_139_281 : ins 139 281 = some (.aload_n 0, 282, 0, 0, 0, 0) := rfl
theorem i_139_282 : ins 139 282 = some (.getfield 297, 285, 7, 54, 0, 0) := rfl
theorem i_139_285 : ins 139 285 = some (.if_icmp .le 13, 288, 298, 0, 0, 0) := rfl
theorem i_139_288 : ins 139 288 = some (.aload_n 0, 289, 0, 0, 0, 0) := rfl
theorem i_139_289 : ins 139 289 = some (.getfield 156, 292, 7, 52, 0, 0) := rfl
theorem i_139_292 : ins 139 292 = some (.aload_n 0, 293, 0, 0, 0, 0) := rfl
theorem i_139_293 : ins 139 293 = some (.getfield 297, 296, 7, 54, 0, 0) := rfl
theorem i_139_296 : ins 139 296 = some (.iload_n 2, 297, 2, 0, 0, 0) := rfl
theorem i_139_297 : ins 139 297 = some (.iastore, 298, 0, 0, 0, 0) := rfl
theorem i_139_298 : ins 139 298 = some (.aload_n 0, 299, 0, 0, 0, 0) := rfl
theorem i_139_299 : ins 139 299 = some (.dup, 300, 0, 0, 0, 0) := rfl
theorem i_139_300 : ins 139 300 = some (.getfield 297, 303, 7, 54, 0, 0) := rfl
theorem i_139_303 : ins 139 303 = some (.iconst 1, 304, 0, 0, 0, 1) := rfl
theorem i_139_304 : ins 139 304 = some (.iadd, 305, 0, 0, 0, 0) := rfl
theorem i_139_305 : ins 139 305 = some (.putfield 297, 308, 7, 54, 0, 0) := rfl
theorem i_139_308 : ins 139 308 = some (.iconst 1, 309, 0, 0, 0, 1) := rfl
theorem i_139_309 : ins 139 309 = some (.ireturn, 310, 0, 0, 0, 0) := rfl
theorem tg_139_53 {x : Int32} (h0 : ¬ x = 0) (h1 : ¬ x = 1) (h2 : ¬ x = 2) (h3 : ¬ x = 3) (h4 : ¬ x = 4) (h5 : ¬ x = 5) (h6 : ¬ x = 6) (h7 : ¬ x = 7) (h8 : ¬ x = 8) : tgtOk 53 (.tableswitch 223 0 8 #[51, 71, 93, 110, 127, 144, 168, 191, 212]) x 276 = true := tgd (by have e0 : x.toInt ≠ 0 := fun e => h0 (Int32.toInt_inj.mp e); have e1 : x.toInt ≠ 1 := fun e => h1 (Int32.toInt_inj.mp e); have e2 : x.toInt ≠ 2 := fun e => h2 (Int32.toInt_inj.mp e); have e3 : x.toInt ≠ 3 := fun e => h3 (Int32.toInt_inj.mp e); have e4 : x.toInt ≠ 4 := fun e => h4 (Int32.toInt_inj.mp e); have e5 : x.toInt ≠ 5 := fun e => h5 (Int32.toInt_inj.mp e); have e6 : x.toInt ≠ 6 := fun e => h6 (Int32.toInt_inj.mp e); have e7 : x.toInt ≠ 7 := fun e => h7 (Int32.toInt_inj.mp e); have e8 : x.toInt ≠ 8 := fun e => h8 (Int32.toInt_inj.mp e); omega) (by decide)
theorem S139_0 {Q : Ou → Prop} {M : Mem} {κ : Kp} (hκ : Rd κ) {x k n : Nat} (hx : x < 6) (hk : k < n) (hn : n ≤ 10) {O : Op} (hO : ∀ f, f < 6 → ∀ j, j < n → M (152 + f) (10 * x + j) = O f j)  {r_2 : Bool}
    (o1 : Run 138 (0, entL 138 [.ref 134, .int (nI ((10 * x) + k))], [], M, κ) (.inl (some (.int (bI r_2))), M, κ))
    (o2 : r_2 = true → vp_in (O 2 k) 12)
    (o3 : r_2 = true → vp_in (O 3 k) 12)
    (o4 : r_2 = true → (O 0 k) = 0 → vp_in (O 1 k) 12)
    (o5 : r_2 = true → ¬ ((O 0 k) = 0) → (O 0 k) = 1 → vp_in (O 1 k) 12)
    (o6 : r_2 = true → ¬ ((O 0 k) = 0) → ¬ ((O 0 k) = 1) → (O 0 k) = 2 → vp_in (O 1 k) 12)
    (o7 : r_2 = true → ¬ ((O 0 k) = 0) → ¬ ((O 0 k) = 1) → ¬ ((O 0 k) = 2) → (O 0 k) = 3 → vp_in (O 1 k) 12)
    (o8 : r_2 = true → ¬ ((O 0 k) = 0) → ¬ ((O 0 k) = 1) → ¬ ((O 0 k) = 2) → ¬ ((O 0 k) = 3) → (O 0 k) = 4 → vp_in (O 1 k) 12)
    (o9 : r_2 = true → ¬ ((O 0 k) = 0) → ¬ ((O 0 k) = 1) → ¬ ((O 0 k) = 2) → ¬ ((O 0 k) = 3) → ¬ ((O 0 k) = 4) → (O 0 k) = 5 → vp_in (O 1 k) 12)
    (o10 : r_2 = true → ¬ ((O 0 k) = 0) → ¬ ((O 0 k) = 1) → ¬ ((O 0 k) = 2) → ¬ ((O 0 k) = 3) → ¬ ((O 0 k) = 4) → ¬ ((O 0 k) = 5) → (O 0 k) = 6 → ¬ ((M 174 ((O 3 k).toNatClampNeg)) = 0) → ¬ (M 174 ((O 3 k).toNatClampNeg)) = 0)
    (o11 : r_2 = true → ¬ ((O 0 k) = 0) → ¬ ((O 0 k) = 1) → ¬ ((O 0 k) = 2) → ¬ ((O 0 k) = 3) → ¬ ((O 0 k) = 4) → ¬ ((O 0 k) = 5) → (O 0 k) = 6 → ¬ ((M 174 ((O 3 k).toNatClampNeg)) = 0) → vp_in (O 1 k) 12)
    (o12 : r_2 = true → ¬ ((O 0 k) = 0) → ¬ ((O 0 k) = 1) → ¬ ((O 0 k) = 2) → ¬ ((O 0 k) = 3) → ¬ ((O 0 k) = 4) → ¬ ((O 0 k) = 5) → ¬ ((O 0 k) = 6) → (O 0 k) = 7 → vp_in (((M 174 ((O 2 k).toNatClampNeg)) + (O 4 k)) &&& 63) 64)
    (o13 : r_2 = true → ¬ ((O 0 k) = 0) → ¬ ((O 0 k) = 1) → ¬ ((O 0 k) = 2) → ¬ ((O 0 k) = 3) → ¬ ((O 0 k) = 4) → ¬ ((O 0 k) = 5) → ¬ ((O 0 k) = 6) → (O 0 k) = 7 → vp_in (O 1 k) 12)
    (o14 : r_2 = true → ¬ ((O 0 k) = 0) → ¬ ((O 0 k) = 1) → ¬ ((O 0 k) = 2) → ¬ ((O 0 k) = 3) → ¬ ((O 0 k) = 4) → ¬ ((O 0 k) = 5) → ¬ ((O 0 k) = 6) → ¬ ((O 0 k) = 7) → (O 0 k) = 8 → vp_in (((M 174 ((O 2 k).toNatClampNeg)) + (O 4 k)) &&& 63) 64)
    (o15 : r_2 = true → ¬ ((O 0 k) = 0) → ¬ ((O 0 k) = 1) → ¬ ((O 0 k) = 2) → ¬ ((O 0 k) = 3) → ¬ ((O 0 k) = 4) → ¬ ((O 0 k) = 5) → ¬ ((O 0 k) = 6) → ¬ ((O 0 k) = 7) → ¬ ((O 0 k) = 8) → (M 134 54) < (64 : Int32) → vp_in (M 134 54) 64)
    (k1 : r_2 = true → (((O 0 k) = 0) ∨ ((¬ ((O 0 k) = 0)) ∧ ((O 0 k) = 1)) ∨ ((¬ ((O 0 k) = 0)) ∧ (¬ ((O 0 k) = 1)) ∧ ((O 0 k) = 2)) ∨ ((¬ ((O 0 k) = 0)) ∧ (¬ ((O 0 k) = 1)) ∧ (¬ ((O 0 k) = 2)) ∧ ((O 0 k) = 3)) ∨ ((¬ ((O 0 k) = 0)) ∧ (¬ ((O 0 k) = 1)) ∧ (¬ ((O 0 k) = 2)) ∧ (¬ ((O 0 k) = 3)) ∧ ((O 0 k) = 4)) ∨ ((¬ ((O 0 k) = 0)) ∧ (¬ ((O 0 k) = 1)) ∧ (¬ ((O 0 k) = 2)) ∧ (¬ ((O 0 k) = 3)) ∧ (¬ ((O 0 k) = 4)) ∧ ((O 0 k) = 5)) ∨ ((¬ ((O 0 k) = 0)) ∧ (¬ ((O 0 k) = 1)) ∧ (¬ ((O 0 k) = 2)) ∧ (¬ ((O 0 k) = 3)) ∧ (¬ ((O 0 k) = 4)) ∧ (¬ ((O 0 k) = 5)) ∧ ((O 0 k) = 6) ∧ (¬ ((M 174 ((O 3 k).toNatClampNeg)) = 0))) ∨ ((¬ ((O 0 k) = 0)) ∧ (¬ ((O 0 k) = 1)) ∧ (¬ ((O 0 k) = 2)) ∧ (¬ ((O 0 k) = 3)) ∧ (¬ ((O 0 k) = 4)) ∧ (¬ ((O 0 k) = 5)) ∧ (¬ ((O 0 k) = 6)) ∧ ((O 0 k) = 7)) ∨ ((¬ ((O 0 k) = 0)) ∧ (¬ ((O 0 k) = 1)) ∧ (¬ ((O 0 k) = 2)) ∧ (¬ ((O 0 k) = 3)) ∧ (¬ ((O 0 k) = 4)) ∧ (¬ ((O 0 k) = 5)) ∧ (¬ ((O 0 k) = 6)) ∧ (¬ ((O 0 k) = 7)) ∧ ((O 0 k) = 8)) ∨ ((¬ ((O 0 k) = 0)) ∧ (¬ ((O 0 k) = 1)) ∧ (¬ ((O 0 k) = 2)) ∧ (¬ ((O 0 k) = 3)) ∧ (¬ ((O 0 k) = 4)) ∧ (¬ ((O 0 k) = 5)) ∧ (¬ ((O 0 k) = 6)) ∧ (¬ ((O 0 k) = 7)) ∧ (¬ ((O 0 k) = 8)))) → Q (.inl (some (.int 1)), (if (O 0 k) = 0 then (stM M 174 ((O 1 k).toNatClampNeg) (O 4 k)) else (if (O 0 k) = 1 then (stM M 174 ((O 1 k).toNatClampNeg) ((M 174 ((O 2 k).toNatClampNeg)) + (O 4 k))) else (if (O 0 k) = 2 then (stM M 174 ((O 1 k).toNatClampNeg) ((M 174 ((O 2 k).toNatClampNeg)) + (M 174 ((O 3 k).toNatClampNeg)))) else (if (O 0 k) = 3 then (stM M 174 ((O 1 k).toNatClampNeg) ((M 174 ((O 2 k).toNatClampNeg)) - (M 174 ((O 3 k).toNatClampNeg)))) else (if (O 0 k) = 4 then (stM M 174 ((O 1 k).toNatClampNeg) ((M 174 ((O 2 k).toNatClampNeg)) * (M 174 ((O 3 k).toNatClampNeg)))) else (if (O 0 k) = 5 then (stM M 174 ((O 1 k).toNatClampNeg) (bI (if (M 174 ((O 2 k).toNatClampNeg)) < (M 174 ((O 3 k).toNatClampNeg)) then true else false))) else (if (O 0 k) = 6 then (stM M 174 ((O 1 k).toNatClampNeg) ((M 174 ((O 2 k).toNatClampNeg)) / (M 174 ((O 3 k).toNatClampNeg)))) else (if (O 0 k) = 7 then (stM M 174 ((O 1 k).toNatClampNeg) (M 173 ((((M 174 ((O 2 k).toNatClampNeg)) + (O 4 k)) &&& 63).toNatClampNeg))) else (if (O 0 k) = 8 then (stM M 173 ((((M 174 ((O 2 k).toNatClampNeg)) + (O 4 k)) &&& 63).toNatClampNeg) (M 174 ((O 3 k).toNatClampNeg))) else (stM (if (M 134 54) < (64 : Int32) then (stM M 177 ((M 134 54).toNatClampNeg) (M 174 ((O 2 k).toNatClampNeg))) else M) 134 54 (((if (M 134 54) < (64 : Int32) then (stM M 177 ((M 134 54).toNatClampNeg) (M 174 ((O 2 k).toNatClampNeg))) else M) 134 54) + 1))))))))))), κ))
    (k2 : r_2 = true → ¬ ((O 0 k) = 0) → ¬ ((O 0 k) = 1) → ¬ ((O 0 k) = 2) → ¬ ((O 0 k) = 3) → ¬ ((O 0 k) = 4) → ¬ ((O 0 k) = 5) → (O 0 k) = 6 → (M 174 ((O 3 k).toNatClampNeg)) = 0 → Q (.inl (some (.int 0)), M, κ))
    (k3 : ¬ (r_2 = true) → Q (.inl (some (.int 1)), M, κ))
    : RT 139 (0, [.ref 134, .int (nI ((10 * x) + k)), UU, UU, UU], [], M, κ) Q := by
  refine w_load i_139_0 rfl rfl ?_
  refine w_load i_139_1 rfl rfl ?_
  refine w_callV (i := _) i_139_2 ⟨by decide, by decide, by decide, rfl⟩ hκ (⟨rfl, by decide⟩ : isOb 134 7) (av := [.int (nI ((10 * x) + k))]) (rest := []) rfl rfl (Nat.le_of_ble_eq_true rfl) (v := some (.int (bI r_2))) (o1) ?_
  refine w_if0 (r_2 = true) i_139_5 cB_ne ?_ ?_
  · intro h1
    refine w_load i_139_10 rfl rfl ?_
    refine w_getR 174 i_139_11 hκ (⟨rfl, by decide⟩ : isOb 134 7) rfl rfl ?_
    refine w_load i_139_14 rfl rfl ?_
    refine w_getR 154 i_139_15 hκ (⟨rfl, by decide⟩ : isOb 134 7) rfl rfl ?_
    refine w_load i_139_18 rfl rfl ?_
    refine w_ialdN (e := ((10 * x) + k)) (v := (O 2 k)) i_139_19 hκ (⟨rfl, rfl, by decide⟩ : isAr 154 60) (by omega) (by decide) (hO 2 (by decide) k (by omega)) ?_
    refine w_iald (v := (M 174 ((O 2 k).toNatClampNeg))) i_139_20 hκ (⟨rfl, rfl, by decide⟩ : isAr 174 12) (o2 h1) (rfl) ?_
    refine w_store (l1 := [.ref 134, .int (nI ((10 * x) + k)), .int (M 174 ((O 2 k).toNatClampNeg)), UU, UU]) i_139_21 rfl (Nat.le_of_ble_eq_true rfl) rfl ?_
    refine w_load i_139_22 rfl rfl ?_
    refine w_getR 174 i_139_23 hκ (⟨rfl, by decide⟩ : isOb 134 7) rfl rfl ?_
    refine w_load i_139_26 rfl rfl ?_
    refine w_getR 155 i_139_27 hκ (⟨rfl, by decide⟩ : isOb 134 7) rfl rfl ?_
    refine w_load i_139_30 rfl rfl ?_
    refine w_ialdN (e := ((10 * x) + k)) (v := (O 3 k)) i_139_31 hκ (⟨rfl, rfl, by decide⟩ : isAr 155 60) (by omega) (by decide) (hO 3 (by decide) k (by omega)) ?_
    refine w_iald (v := (M 174 ((O 3 k).toNatClampNeg))) i_139_32 hκ (⟨rfl, rfl, by decide⟩ : isAr 174 12) (o3 h1) (rfl) ?_
    refine w_store (l1 := [.ref 134, .int (nI ((10 * x) + k)), .int (M 174 ((O 2 k).toNatClampNeg)), .int (M 174 ((O 3 k).toNatClampNeg)), UU]) i_139_33 rfl (Nat.le_of_ble_eq_true rfl) rfl ?_
    refine w_load i_139_34 rfl rfl ?_
    refine w_load i_139_35 rfl rfl ?_
    refine w_getR 156 i_139_36 hκ (⟨rfl, by decide⟩ : isOb 134 7) rfl rfl ?_
    refine w_load i_139_39 rfl rfl ?_
    refine w_ialdN (e := ((10 * x) + k)) (v := (O 4 k)) i_139_40 hκ (⟨rfl, rfl, by decide⟩ : isAr 156 60) (by omega) (by decide) (hO 4 (by decide) k (by omega)) ?_
    refine w_bin (w := ((M 174 ((O 2 k).toNatClampNeg)) + (O 4 k))) i_139_41 rfl rfl ?_
    refine w_push i_139_42 rfl ?_
    refine w_bin (w := (((M 174 ((O 2 k).toNatClampNeg)) + (O 4 k)) &&& 63)) i_139_44 rfl rfl ?_
    refine w_store (l1 := [.ref 134, .int (nI ((10 * x) + k)), .int (M 174 ((O 2 k).toNatClampNeg)), .int (M 174 ((O 3 k).toNatClampNeg)), .int (((M 174 ((O 2 k).toNatClampNeg)) + (O 4 k)) &&& 63)]) i_139_45 rfl (Nat.le_of_ble_eq_true rfl) rfl ?_
    refine w_load i_139_47 rfl rfl ?_
    refine w_getR 152 i_139_48 hκ (⟨rfl, by decide⟩ : isOb 134 7) rfl rfl ?_
    refine w_load i_139_51 rfl rfl ?_
    refine w_ialdN (e := ((10 * x) + k)) (v := (O 0 k)) i_139_52 hκ (⟨rfl, rfl, by decide⟩ : isAr 152 60) (by omega) (by decide) (hO 0 (by decide) k (by omega)) ?_
    have K2 : (((O 0 k) = 0) ∨ ((¬ ((O 0 k) = 0)) ∧ ((O 0 k) = 1)) ∨ ((¬ ((O 0 k) = 0)) ∧ (¬ ((O 0 k) = 1)) ∧ ((O 0 k) = 2)) ∨ ((¬ ((O 0 k) = 0)) ∧ (¬ ((O 0 k) = 1)) ∧ (¬ ((O 0 k) = 2)) ∧ ((O 0 k) = 3)) ∨ ((¬ ((O 0 k) = 0)) ∧ (¬ ((O 0 k) = 1)) ∧ (¬ ((O 0 k) = 2)) ∧ (¬ ((O 0 k) = 3)) ∧ ((O 0 k) = 4)) ∨ ((¬ ((O 0 k) = 0)) ∧ (¬ ((O 0 k) = 1)) ∧ (¬ ((O 0 k) = 2)) ∧ (¬ ((O 0 k) = 3)) ∧ (¬ ((O 0 k) = 4)) ∧ ((O 0 k) = 5)) ∨ ((¬ ((O 0 k) = 0)) ∧ (¬ ((O 0 k) = 1)) ∧ (¬ ((O 0 k) = 2)) ∧ (¬ ((O 0 k) = 3)) ∧ (¬ ((O 0 k) = 4)) ∧ (¬ ((O 0 k) = 5)) ∧ ((O 0 k) = 6) ∧ (¬ ((M 174 ((O 3 k).toNatClampNeg)) = 0))) ∨ ((¬ ((O 0 k) = 0)) ∧ (¬ ((O 0 k) = 1)) ∧ (¬ ((O 0 k) = 2)) ∧ (¬ ((O 0 k) = 3)) ∧ (¬ ((O 0 k) = 4)) ∧ (¬ ((O 0 k) = 5)) ∧ (¬ ((O 0 k) = 6)) ∧ ((O 0 k) = 7)) ∨ ((¬ ((O 0 k) = 0)) ∧ (¬ ((O 0 k) = 1)) ∧ (¬ ((O 0 k) = 2)) ∧ (¬ ((O 0 k) = 3)) ∧ (¬ ((O 0 k) = 4)) ∧ (¬ ((O 0 k) = 5)) ∧ (¬ ((O 0 k) = 6)) ∧ (¬ ((O 0 k) = 7)) ∧ ((O 0 k) = 8)) ∨ ((¬ ((O 0 k) = 0)) ∧ (¬ ((O 0 k) = 1)) ∧ (¬ ((O 0 k) = 2)) ∧ (¬ ((O 0 k) = 3)) ∧ (¬ ((O 0 k) = 4)) ∧ (¬ ((O 0 k) = 5)) ∧ (¬ ((O 0 k) = 6)) ∧ (¬ ((O 0 k) = 7)) ∧ (¬ ((O 0 k) = 8)))) → RT 139 (308, [.ref 134, .int (nI ((10 * x) + k)), .int (M 174 ((O 2 k).toNatClampNeg)), .int (M 174 ((O 3 k).toNatClampNeg)), .int (((M 174 ((O 2 k).toNatClampNeg)) + (O 4 k)) &&& 63)], [], (if (O 0 k) = 0 then (stM M 174 ((O 1 k).toNatClampNeg) (O 4 k)) else (if (O 0 k) = 1 then (stM M 174 ((O 1 k).toNatClampNeg) ((M 174 ((O 2 k).toNatClampNeg)) + (O 4 k))) else (if (O 0 k) = 2 then (stM M 174 ((O 1 k).toNatClampNeg) ((M 174 ((O 2 k).toNatClampNeg)) + (M 174 ((O 3 k).toNatClampNeg)))) else (if (O 0 k) = 3 then (stM M 174 ((O 1 k).toNatClampNeg) ((M 174 ((O 2 k).toNatClampNeg)) - (M 174 ((O 3 k).toNatClampNeg)))) else (if (O 0 k) = 4 then (stM M 174 ((O 1 k).toNatClampNeg) ((M 174 ((O 2 k).toNatClampNeg)) * (M 174 ((O 3 k).toNatClampNeg)))) else (if (O 0 k) = 5 then (stM M 174 ((O 1 k).toNatClampNeg) (bI (if (M 174 ((O 2 k).toNatClampNeg)) < (M 174 ((O 3 k).toNatClampNeg)) then true else false))) else (if (O 0 k) = 6 then (stM M 174 ((O 1 k).toNatClampNeg) ((M 174 ((O 2 k).toNatClampNeg)) / (M 174 ((O 3 k).toNatClampNeg)))) else (if (O 0 k) = 7 then (stM M 174 ((O 1 k).toNatClampNeg) (M 173 ((((M 174 ((O 2 k).toNatClampNeg)) + (O 4 k)) &&& 63).toNatClampNeg))) else (if (O 0 k) = 8 then (stM M 173 ((((M 174 ((O 2 k).toNatClampNeg)) + (O 4 k)) &&& 63).toNatClampNeg) (M 174 ((O 3 k).toNatClampNeg))) else (stM (if (M 134 54) < (64 : Int32) then (stM M 177 ((M 134 54).toNatClampNeg) (M 174 ((O 2 k).toNatClampNeg))) else M) 134 54 (((if (M 134 54) < (64 : Int32) then (stM M 177 ((M 134 54).toNatClampNeg) (M 174 ((O 2 k).toNatClampNeg))) else M) 134 54) + 1))))))))))), κ) Q := by
      intro h3
      refine w_push i_139_308 rfl ?_
      exact w_iret i_139_309 (.inr ⟨rfl, rfl⟩) (k1 h1 h3)
    by_cases h4 : (O 0 k) = 0
    · refine w_table 104 i_139_53 (by rw [h4]; rfl) ?_
      refine w_load i_139_104 rfl rfl ?_
      refine w_getR 174 i_139_105 hκ (⟨rfl, by decide⟩ : isOb 134 7) rfl rfl ?_
      refine w_load i_139_108 rfl rfl ?_
      refine w_getR 153 i_139_109 hκ (⟨rfl, by decide⟩ : isOb 134 7) rfl rfl ?_
      refine w_load i_139_112 rfl rfl ?_
      refine w_ialdN (e := ((10 * x) + k)) (v := (O 1 k)) i_139_113 hκ (⟨rfl, rfl, by decide⟩ : isAr 153 60) (by omega) (by decide) (hO 1 (by decide) k (by omega)) ?_
      refine w_load i_139_114 rfl rfl ?_
      refine w_getR 156 i_139_115 hκ (⟨rfl, by decide⟩ : isOb 134 7) rfl rfl ?_
      refine w_load i_139_118 rfl rfl ?_
      refine w_ialdN (e := ((10 * x) + k)) (v := (O 4 k)) i_139_119 hκ (⟨rfl, rfl, by decide⟩ : isAr 156 60) (by omega) (by decide) (hO 4 (by decide) k (by omega)) ?_
      refine w_iast i_139_120 hκ (⟨rfl, rfl, by decide⟩ : isAr 174 12) (o4 h1 h4) ?_
      refine w_goto i_139_121 ?_
      exact (by first | exact (K2 (.inl h4)) | (have K9 := K2 (.inl h4); simp only [↓if_pos h4] at K9 ⊢; exact (K9)))
    · have h5 := h4
      by_cases h6 : (O 0 k) = 1
      · refine w_table 124 i_139_53 (by rw [h6]; rfl) ?_
        refine w_load i_139_124 rfl rfl ?_
        refine w_getR 174 i_139_125 hκ (⟨rfl, by decide⟩ : isOb 134 7) rfl rfl ?_
        refine w_load i_139_128 rfl rfl ?_
        refine w_getR 153 i_139_129 hκ (⟨rfl, by decide⟩ : isOb 134 7) rfl rfl ?_
        refine w_load i_139_132 rfl rfl ?_
        refine w_ialdN (e := ((10 * x) + k)) (v := (O 1 k)) i_139_133 hκ (⟨rfl, rfl, by decide⟩ : isAr 153 60) (by omega) (by decide) (hO 1 (by decide) k (by omega)) ?_
        refine w_load i_139_134 rfl rfl ?_
        refine w_load i_139_135 rfl rfl ?_
        refine w_getR 156 i_139_136 hκ (⟨rfl, by decide⟩ : isOb 134 7) rfl rfl ?_
        refine w_load i_139_139 rfl rfl ?_
        refine w_ialdN (e := ((10 * x) + k)) (v := (O 4 k)) i_139_140 hκ (⟨rfl, rfl, by decide⟩ : isAr 156 60) (by omega) (by decide) (hO 4 (by decide) k (by omega)) ?_
        refine w_bin (w := ((M 174 ((O 2 k).toNatClampNeg)) + (O 4 k))) i_139_141 rfl rfl ?_
        refine w_iast i_139_142 hκ (⟨rfl, rfl, by decide⟩ : isAr 174 12) (o5 h1 h5 h6) ?_
        refine w_goto i_139_143 ?_
        exact (by first | exact (K2 (.inr (.inl ⟨h5, h6⟩))) | (have K9 := K2 (.inr (.inl ⟨h5, h6⟩)); simp only [↓if_neg h5, ↓if_pos h6] at K9 ⊢; exact (K9)))
      · have h7 := h6
        by_cases h8 : (O 0 k) = 2
        · refine w_table 146 i_139_53 (by rw [h8]; rfl) ?_
          refine w_load i_139_146 rfl rfl ?_
          refine w_getR 174 i_139_147 hκ (⟨rfl, by decide⟩ : isOb 134 7) rfl rfl ?_
          refine w_load i_139_150 rfl rfl ?_
          refine w_getR 153 i_139_151 hκ (⟨rfl, by decide⟩ : isOb 134 7) rfl rfl ?_
          refine w_load i_139_154 rfl rfl ?_
          refine w_ialdN (e := ((10 * x) + k)) (v := (O 1 k)) i_139_155 hκ (⟨rfl, rfl, by decide⟩ : isAr 153 60) (by omega) (by decide) (hO 1 (by decide) k (by omega)) ?_
          refine w_load i_139_156 rfl rfl ?_
          refine w_load i_139_157 rfl rfl ?_
          refine w_bin (w := ((M 174 ((O 2 k).toNatClampNeg)) + (M 174 ((O 3 k).toNatClampNeg)))) i_139_158 rfl rfl ?_
          refine w_iast i_139_159 hκ (⟨rfl, rfl, by decide⟩ : isAr 174 12) (o6 h1 h5 h7 h8) ?_
          refine w_goto i_139_160 ?_
          exact (by first | exact (K2 (.inr (.inr (.inl ⟨h5, h7, h8⟩)))) | (have K9 := K2 (.inr (.inr (.inl ⟨h5, h7, h8⟩))); simp only [↓if_neg h5, ↓if_neg h7, ↓if_pos h8] at K9 ⊢; exact (K9)))
        · have h9 := h8
          by_cases h10 : (O 0 k) = 3
          · refine w_table 163 i_139_53 (by rw [h10]; rfl) ?_
            refine w_load i_139_163 rfl rfl ?_
            refine w_getR 174 i_139_164 hκ (⟨rfl, by decide⟩ : isOb 134 7) rfl rfl ?_
            refine w_load i_139_167 rfl rfl ?_
            refine w_getR 153 i_139_168 hκ (⟨rfl, by decide⟩ : isOb 134 7) rfl rfl ?_
            refine w_load i_139_171 rfl rfl ?_
            refine w_ialdN (e := ((10 * x) + k)) (v := (O 1 k)) i_139_172 hκ (⟨rfl, rfl, by decide⟩ : isAr 153 60) (by omega) (by decide) (hO 1 (by decide) k (by omega)) ?_
            refine w_load i_139_173 rfl rfl ?_
            refine w_load i_139_174 rfl rfl ?_
            refine w_bin (w := ((M 174 ((O 2 k).toNatClampNeg)) - (M 174 ((O 3 k).toNatClampNeg)))) i_139_175 rfl rfl ?_
            refine w_iast i_139_176 hκ (⟨rfl, rfl, by decide⟩ : isAr 174 12) (o7 h1 h5 h7 h9 h10) ?_
            refine w_goto i_139_177 ?_
            exact (by first | exact (K2 (.inr (.inr (.inr (.inl ⟨h5, h7, h9, h10⟩))))) | (have K9 := K2 (.inr (.inr (.inr (.inl ⟨h5, h7, h9, h10⟩)))); simp only [↓if_neg h5, ↓if_neg h7, ↓if_neg h9, ↓if_pos h10] at K9 ⊢; exact (K9)))
          · have h11 := h10
            by_cases h12 : (O 0 k) = 4
            · refine w_table 180 i_139_53 (by rw [h12]; rfl) ?_
              refine w_load i_139_180 rfl rfl ?_
              refine w_getR 174 i_139_181 hκ (⟨rfl, by decide⟩ : isOb 134 7) rfl rfl ?_
              refine w_load i_139_184 rfl rfl ?_
              refine w_getR 153 i_139_185 hκ (⟨rfl, by decide⟩ : isOb 134 7) rfl rfl ?_
              refine w_load i_139_188 rfl rfl ?_
              refine w_ialdN (e := ((10 * x) + k)) (v := (O 1 k)) i_139_189 hκ (⟨rfl, rfl, by decide⟩ : isAr 153 60) (by omega) (by decide) (hO 1 (by decide) k (by omega)) ?_
              refine w_load i_139_190 rfl rfl ?_
              refine w_load i_139_191 rfl rfl ?_
              refine w_bin (w := ((M 174 ((O 2 k).toNatClampNeg)) * (M 174 ((O 3 k).toNatClampNeg)))) i_139_192 rfl rfl ?_
              refine w_iast i_139_193 hκ (⟨rfl, rfl, by decide⟩ : isAr 174 12) (o8 h1 h5 h7 h9 h11 h12) ?_
              refine w_goto i_139_194 ?_
              exact (by first | exact (K2 (.inr (.inr (.inr (.inr (.inl ⟨h5, h7, h9, h11, h12⟩)))))) | (have K9 := K2 (.inr (.inr (.inr (.inr (.inl ⟨h5, h7, h9, h11, h12⟩))))); simp only [↓if_neg h5, ↓if_neg h7, ↓if_neg h9, ↓if_neg h11, ↓if_pos h12] at K9 ⊢; exact (K9)))
            · have h13 := h12
              by_cases h14 : (O 0 k) = 5
              · refine w_table 197 i_139_53 (by rw [h14]; rfl) ?_
                refine w_load i_139_197 rfl rfl ?_
                refine w_getR 174 i_139_198 hκ (⟨rfl, by decide⟩ : isOb 134 7) rfl rfl ?_
                refine w_load i_139_201 rfl rfl ?_
                refine w_getR 153 i_139_202 hκ (⟨rfl, by decide⟩ : isOb 134 7) rfl rfl ?_
                refine w_load i_139_205 rfl rfl ?_
                refine w_ialdN (e := ((10 * x) + k)) (v := (O 1 k)) i_139_206 hκ (⟨rfl, rfl, by decide⟩ : isAr 153 60) (by omega) (by decide) (hO 1 (by decide) k (by omega)) ?_
                refine w_load i_139_207 rfl rfl ?_
                refine w_load i_139_208 rfl rfl ?_
                have K15 : RT 139 (217, [.ref 134, .int (nI ((10 * x) + k)), .int (M 174 ((O 2 k).toNatClampNeg)), .int (M 174 ((O 3 k).toNatClampNeg)), .int (((M 174 ((O 2 k).toNatClampNeg)) + (O 4 k)) &&& 63)], [.int (bI (if (M 174 ((O 2 k).toNatClampNeg)) < (M 174 ((O 3 k).toNatClampNeg)) then true else false)), .int (O 1 k), .ref 174], M, κ) Q := by
                  refine w_iast i_139_217 hκ (⟨rfl, rfl, by decide⟩ : isAr 174 12) (o9 h1 h5 h7 h9 h11 h13 h14) ?_
                  refine w_goto i_139_218 ?_
                  exact (by first | exact (K2 (.inr (.inr (.inr (.inr (.inr (.inl ⟨h5, h7, h9, h11, h13, h14⟩))))))) | (have K9 := K2 (.inr (.inr (.inr (.inr (.inr (.inl ⟨h5, h7, h9, h11, h13, h14⟩)))))); simp only [↓if_neg h5, ↓if_neg h7, ↓if_neg h9, ↓if_neg h11, ↓if_neg h13, ↓if_pos h14] at K9 ⊢; exact (K9)))
                refine w_if2n ((M 174 ((O 2 k).toNatClampNeg)) < (M 174 ((O 3 k).toNatClampNeg))) i_139_209 cI_ge ?_ ?_
                · intro h16
                  refine w_push i_139_212 rfl ?_
                  refine w_goto i_139_213 ?_
                  exact (by first | exact (K15) | (have K9 := K15; simp only [↓if_pos h16] at K9 ⊢; exact (K9)))
                · intro h17
                  refine w_push i_139_216 rfl ?_
                  exact (by first | exact (K15) | (have K9 := K15; simp only [↓if_neg h17] at K9 ⊢; exact (K9)))
              · have h18 := h14
                by_cases h19 : (O 0 k) = 6
                · refine w_table 221 i_139_53 (by rw [h19]; rfl) ?_
                  refine w_load i_139_221 rfl rfl ?_
                  refine w_if0n ((M 174 ((O 3 k).toNatClampNeg)) = 0) i_139_222 cI0_ne ?_ ?_
                  · intro h20
                    refine w_push i_139_225 rfl ?_
                    exact w_iret i_139_226 (.inr ⟨rfl, rfl⟩) (k2 h1 h5 h7 h9 h11 h13 h18 h19 h20)
                  · intro h21
                    refine w_load i_139_227 rfl rfl ?_
                    refine w_getR 174 i_139_228 hκ (⟨rfl, by decide⟩ : isOb 134 7) rfl rfl ?_
                    refine w_load i_139_231 rfl rfl ?_
                    refine w_getR 153 i_139_232 hκ (⟨rfl, by decide⟩ : isOb 134 7) rfl rfl ?_
                    refine w_load i_139_235 rfl rfl ?_
                    refine w_ialdN (e := ((10 * x) + k)) (v := (O 1 k)) i_139_236 hκ (⟨rfl, rfl, by decide⟩ : isAr 153 60) (by omega) (by decide) (hO 1 (by decide) k (by omega)) ?_
                    refine w_load i_139_237 rfl rfl ?_
                    refine w_load i_139_238 rfl rfl ?_
                    refine w_div (w := ((M 174 ((O 2 k).toNatClampNeg)) / (M 174 ((O 3 k).toNatClampNeg)))) i_139_239 rfl (o10 h1 h5 h7 h9 h11 h13 h18 h19 h21) rfl ?_
                    refine w_iast i_139_240 hκ (⟨rfl, rfl, by decide⟩ : isAr 174 12) (o11 h1 h5 h7 h9 h11 h13 h18 h19 h21) ?_
                    refine w_goto i_139_241 ?_
                    exact (by first | exact (K2 (.inr (.inr (.inr (.inr (.inr (.inr (.inl ⟨h5, h7, h9, h11, h13, h18, h19, h21⟩)))))))) | (have K9 := K2 (.inr (.inr (.inr (.inr (.inr (.inr (.inl ⟨h5, h7, h9, h11, h13, h18, h19, h21⟩))))))); simp only [↓if_neg h5, ↓if_neg h7, ↓if_neg h9, ↓if_neg h11, ↓if_neg h13, ↓if_neg h18, ↓if_pos h19, ↓if_neg h21] at K9 ⊢; exact (K9)))
                · have h22 := h19
                  by_cases h23 : (O 0 k) = 7
                  · refine w_table 244 i_139_53 (by rw [h23]; rfl) ?_
                    refine w_load i_139_244 rfl rfl ?_
                    refine w_getR 174 i_139_245 hκ (⟨rfl, by decide⟩ : isOb 134 7) rfl rfl ?_
                    refine w_load i_139_248 rfl rfl ?_
                    refine w_getR 153 i_139_249 hκ (⟨rfl, by decide⟩ : isOb 134 7) rfl rfl ?_
                    refine w_load i_139_252 rfl rfl ?_
                    refine w_ialdN (e := ((10 * x) + k)) (v := (O 1 k)) i_139_253 hκ (⟨rfl, rfl, by decide⟩ : isAr 153 60) (by omega) (by decide) (hO 1 (by decide) k (by omega)) ?_
                    refine w_load i_139_254 rfl rfl ?_
                    refine w_getR 173 i_139_255 hκ (⟨rfl, by decide⟩ : isOb 134 7) rfl rfl ?_
                    refine w_load i_139_258 rfl rfl ?_
                    refine w_iald (v := (M 173 ((((M 174 ((O 2 k).toNatClampNeg)) + (O 4 k)) &&& 63).toNatClampNeg))) i_139_260 hκ (⟨rfl, rfl, by decide⟩ : isAr 173 64) (o12 h1 h5 h7 h9 h11 h13 h18 h22 h23) (rfl) ?_
                    refine w_iast i_139_261 hκ (⟨rfl, rfl, by decide⟩ : isAr 174 12) (o13 h1 h5 h7 h9 h11 h13 h18 h22 h23) ?_
                    refine w_goto i_139_262 ?_
                    exact (by first | exact (K2 (.inr (.inr (.inr (.inr (.inr (.inr (.inr (.inl ⟨h5, h7, h9, h11, h13, h18, h22, h23⟩))))))))) | (have K9 := K2 (.inr (.inr (.inr (.inr (.inr (.inr (.inr (.inl ⟨h5, h7, h9, h11, h13, h18, h22, h23⟩)))))))); simp only [↓if_neg h5, ↓if_neg h7, ↓if_neg h9, ↓if_neg h11, ↓if_neg h13, ↓if_neg h18, ↓if_neg h22, ↓if_pos h23] at K9 ⊢; exact (K9)))
                  · have h24 := h23
                    by_cases h25 : (O 0 k) = 8
                    · refine w_table 265 i_139_53 (by rw [h25]; rfl) ?_
                      refine w_load i_139_265 rfl rfl ?_
                      refine w_getR 173 i_139_266 hκ (⟨rfl, by decide⟩ : isOb 134 7) rfl rfl ?_
                      refine w_load i_139_269 rfl rfl ?_
                      refine w_load i_139_271 rfl rfl ?_
                      refine w_iast i_139_272 hκ (⟨rfl, rfl, by decide⟩ : isAr 173 64) (o14 h1 h5 h7 h9 h11 h13 h18 h22 h24 h25) ?_
                      refine w_goto i_139_273 ?_
                      exact (by first | exact (K2 (.inr (.inr (.inr (.inr (.inr (.inr (.inr (.inr (.inl ⟨h5, h7, h9, h11, h13, h18, h22, h24, h25⟩)))))))))) | (have K9 := K2 (.inr (.inr (.inr (.inr (.inr (.inr (.inr (.inr (.inl ⟨h5, h7, h9, h11, h13, h18, h22, h24, h25⟩))))))))); simp only [↓if_neg h5, ↓if_neg h7, ↓if_neg h9, ↓if_neg h11, ↓if_neg h13, ↓if_neg h18, ↓if_neg h22, ↓if_neg h24, ↓if_pos h25] at K9 ⊢; exact (K9)))
                    · have h26 := h25
                      refine w_table 276 i_139_53 (tg_139_53 h5 h7 h9 h11 h13 h18 h22 h24 h26) ?_
                      refine w_load i_139_276 rfl rfl ?_
                      refine w_getR 177 i_139_277 hκ (⟨rfl, by decide⟩ : isOb 134 7) rfl rfl ?_
                      refine w_alen i_139_280 hκ (⟨rfl, rfl, by decide⟩ : isAr 177 64) ?_
                      refine w_load i_139_281 rfl rfl ?_
                      refine w_getI (v := (M 134 54)) i_139_282 hκ (⟨rfl, by decide⟩ : isOb 134 7) rfl (rfl) ?_
                      have K28 : RT 139 (298, [.ref 134, .int (nI ((10 * x) + k)), .int (M 174 ((O 2 k).toNatClampNeg)), .int (M 174 ((O 3 k).toNatClampNeg)), .int (((M 174 ((O 2 k).toNatClampNeg)) + (O 4 k)) &&& 63)], [], (if (M 134 54) < (64 : Int32) then (stM M 177 ((M 134 54).toNatClampNeg) (M 174 ((O 2 k).toNatClampNeg))) else M), κ) Q := by
                        refine w_load i_139_298 rfl rfl ?_
                        refine w_dup i_139_299 rfl ?_
                        refine w_getI (v := ((if (M 134 54) < (64 : Int32) then (stM M 177 ((M 134 54).toNatClampNeg) (M 174 ((O 2 k).toNatClampNeg))) else M) 134 54)) i_139_300 hκ (⟨rfl, by decide⟩ : isOb 134 7) rfl (rfl) ?_
                        refine w_push i_139_303 rfl ?_
                        refine w_bin (w := (((if (M 134 54) < (64 : Int32) then (stM M 177 ((M 134 54).toNatClampNeg) (M 174 ((O 2 k).toNatClampNeg))) else M) 134 54) + 1)) i_139_304 rfl rfl ?_
                        refine w_putI i_139_305 hκ (⟨rfl, by decide⟩ : isOb 134 7) rfl (fun c => absurd c (by decide)) ?_
                        exact (by first | exact (K2 (.inr (.inr (.inr (.inr (.inr (.inr (.inr (.inr (.inr ⟨h5, h7, h9, h11, h13, h18, h22, h24, h26⟩)))))))))) | (have K9 := K2 (.inr (.inr (.inr (.inr (.inr (.inr (.inr (.inr (.inr ⟨h5, h7, h9, h11, h13, h18, h22, h24, h26⟩))))))))); simp only [↓if_neg h5, ↓if_neg h7, ↓if_neg h9, ↓if_neg h11, ↓if_neg h13, ↓if_neg h18, ↓if_neg h22, ↓if_neg h24, ↓if_neg h26] at K9 ⊢; exact (K9)))
                      refine w_if2n ((M 134 54) < (64 : Int32)) i_139_285 cI_le ?_ ?_
                      · intro h29
                        refine w_load i_139_288 rfl rfl ?_
                        refine w_getR 177 i_139_289 hκ (⟨rfl, by decide⟩ : isOb 134 7) rfl rfl ?_
                        refine w_load i_139_292 rfl rfl ?_
                        refine w_getI (v := (M 134 54)) i_139_293 hκ (⟨rfl, by decide⟩ : isOb 134 7) rfl (rfl) ?_
                        refine w_load i_139_296 rfl rfl ?_
                        refine w_iast i_139_297 hκ (⟨rfl, rfl, by decide⟩ : isAr 177 64) (o15 h1 h5 h7 h9 h11 h13 h18 h22 h24 h26 h29) ?_
                        exact (by first | exact (K28) | (have K9 := K28; simp only [↓if_pos h29] at K9 ⊢; exact (K9)))
                      · intro h30
                        exact (by first | exact (K28) | (have K9 := K28; simp only [↓if_neg h30] at K9 ⊢; exact (K9)))
  · intro h31
    refine w_push i_139_8 rfl ?_
    exact w_iret i_139_9 (.inr ⟨rfl, rfl⟩) (k3 h31)
variable {Q : Ou → Prop} {M M0 : Mem} {κ : Kp}
/-- what a run works on: variables, memory, how many numbers were put out, these -/
abbrev Rs : Type := (Nat → Int32) × (Nat → Int32) × Nat × (Nat → Int32)
def onF (g : Int32) (va : Nat → Int32) : Bool := if g = 0 then true else (if 0 < g then (if va (g - 1).toNatClampNeg = 0 then false else true) else (if va (-1 - g).toNatClampNeg = 0 then true else false))
def vlF (c A B n : Int32) (me : Nat → Int32) : Int32 := if c = 0 then n else if c = 1 then A + n else if c = 2 then A + B else if c = 3 then A - B else if c = 4 then A * B else if c = 5 then bI (if A < B then true else false) else if c = 6 then A / B else me ((A + n) &&& 63).toNatClampNeg
def opS (O : Op) (k : Nat) (r : Rs) : Option Rs := if onF (O 5 k) r.1 = true then
    (if O 0 k = 6 ∧ r.1 (O 3 k).toNatClampNeg = 0 then none
     else if O 0 k = 8 then some (r.1, up r.2.1 ((r.1 (O 2 k).toNatClampNeg + O 4 k) &&& 63).toNatClampNeg (r.1 (O 3 k).toNatClampNeg), r.2.2.1, r.2.2.2)
     else if O 0 k = 9 then some (r.1, r.2.1, r.2.2.1 + 1, if r.2.2.1 < 64 then up r.2.2.2 r.2.2.1 (r.1 (O 2 k).toNatClampNeg) else r.2.2.2)
     else some (up r.1 (O 1 k).toNatClampNeg (vlF (O 0 k) (r.1 (O 2 k).toNatClampNeg) (r.1 (O 3 k).toNatClampNeg) (O 4 k) r.2.1), r.2.1, r.2.2.1, r.2.2.2))
  else some r
def RC (M : Mem) (o : Nat) (r : Rs) : Prop := M o 0 = nI r.2.2.1 ∧ (∀ i, i < 64 → i < r.2.2.1 → M (o + 1) i = r.2.2.2 i) ∧ (∀ i, i < 12 → M (o + 2) i = r.1 i) ∧ ∀ i, i < 64 → M (o + 3) i = r.2.1 i
def RMo (M : Mem) (r : Rs) : Prop := M 134 54 = nI r.2.2.1 ∧ (∀ i, i < 64 → i < r.2.2.1 → M 177 i = r.2.2.2 i) ∧ (∀ i, i < 12 → M 174 i = r.1 i) ∧ ∀ i, i < 64 → M 173 i = r.2.1 i
def frO (o : Nat) (M0 M : Mem) : Prop := ∀ x j, ¬ (x = o ∧ j = 0) → ¬ (o + 1 ≤ x ∧ x ≤ o + 3) → M x j = M0 x j
def frR (M0 M : Mem) : Prop := ∀ x j, ¬ (x = 134 ∧ j = 54) → ¬ (x = 173 ∨ x = 174 ∨ x = 177) → M x j = M0 x j
theorem v12 {x : Int32} (h : 0 ≤ x.toInt ∧ x.toInt ≤ 11) : vp_in x 12 ∧ x.toNatClampNeg < 12 := by
  have e := nI_ofI h.1
  have e2 := clampI h.1
  have h3 : x.toNatClampNeg < 12 := by omega
  refine ⟨?_, h3⟩
  rw [← e]
  exact vp_in_nI h3 (by decide)
theorem a63 (x : Int32) : vp_in (x &&& 63) 64 ∧ (x &&& 63).toNatClampNeg < 64 := by
  have h := pk_andIn x (m := 63) 6 (by decide) (by decide)
  exact ⟨h, vp_lt6 h⟩
theorem up_get {c : Nat → Int32} {M' : Mem} {o i k : Nat} {w : Int32} (h1 : ¬ i = k → M' o i = c i) (h2 : i = k → M' o i = w) : M' o i = up c k w i := by
  by_cases e : i = k
  · rw [h2 e, e, up_s]
  · rw [up_o e]
    exact h1 e
section OP
variable {n k o x b : Nat} {O : Op} {r : Rs}
theorem grng {g : Int32} (hg : -12 ≤ g.toInt ∧ g.toInt ≤ 12) : (0 < g → vp_in (g - 1) 12 ∧ (g - 1).toNatClampNeg < 12) ∧ (¬ g = 0 → ¬ 0 < g → vp_in (-1 - g) 12 ∧ (-1 - g).toNatClampNeg < 12) := by
  refine ⟨fun h => v12 ?_, fun h h2 => v12 ?_⟩
  · rw [ltI, c0] at h
    rw [l_sub (by omega) (by rw [t1]; omega), t1]
    omega
  · rw [ltI, c0] at h2
    rw [eI, c0] at h
    rw [l_sub (by rw [cm1]; omega) (by omega), cm1]
    omega
theorem c53 (hκ : Rd κ) {g : Int32} (ho : isOc o) (hg : -12 ≤ g.toInt ∧ g.toInt ≤ 12) (hv : ∀ i, i < 12 → M (o + 2) i = r.1 i) : Run 53 (0, entL 53 [.ref o, .int g], [], M, κ) (.inl (some (.int (bI (onF g r.1)))), M, κ) := by
  have hgr := grng hg
  refine RT_run (S53_0 hκ ho (fun _ h => (hgr.1 h).1) (fun h h2 => (hgr.2 h h2).1) (fun h => ?_) (fun h => ?_))
  · rw [onF, if_pos h]
    rfl
  · rw [onF, if_neg h]
    refine oi (congrArg bI ?_)
    by_cases q : 0 < g
    · rw [if_pos q, if_pos q, hv _ (hgr.1 q).2]
    · rw [if_neg q, if_neg q, hv _ (hgr.2 h q).2]
theorem f52 (hκ : Rd κ) (hb : isBl b) (ho : isOc o) (hk : k < n) (hn : n ≤ 10) (hO : ∀ f, f < 6 → ∀ j, j < n → M (b + 1 + f) j = O f j) (hOk : Ook O n) (hR : RC M o r) (hoc : r.2.2.1 ≤ 5000)
    (K0 : opS O k r = none → Q (.inl none, stM M o 2 1, κ))
    (K1 : ∀ r', opS O k r = some r' → ∀ M', frO o M M' → RC M' o r' → Q (.inl none, M', κ)) : RT 52 (0, entL 52 [.ref o, .ref b, .int (nI k)], [], M, κ) Q := by
  obtain ⟨k0, k1, k2, k3, k5⟩ := hOk k hk
  obtain ⟨r0, r1, r2, r3⟩ := hR
  have hor := oc_rng ho
  have d1 := v12 k1
  have d2 := v12 k2
  have d3 := v12 k3
  have e2 := r2 _ d2.2
  have e3 := r2 _ d3.2
  have ho56 : ∀ c : Int32, ¬ c = 6 → Run 56 (0, entL 56 [.ref o, .int c, .int (M (o + 2) (O 2 k).toNatClampNeg), .int (M (o + 2) (O 3 k).toNatClampNeg), .int (O 4 k)], [], M, κ) (.inl (some (.int (vlF c (r.1 (O 2 k).toNatClampNeg) (r.1 (O 3 k).toNatClampNeg) (O 4 k) r.2.1))), M, κ) := fun c hc6 => by
    rw [e2, e3]
    refine RT_run (S56_0 hκ ho (fun _ _ _ _ _ _ => (a63 _).1) (fun h => ?_) (fun a h => ?_) (fun a a2 h => ?_) (fun a a2 a3 h => ?_) (fun a a2 a3 a4 h => ?_) (fun a a2 a3 a4 a5 h => ?_) (fun a a2 a3 a4 a5 a6 => ?_))
    · rw [vlF, if_pos h]
    · rw [vlF, if_neg a, if_pos h]
    · rw [vlF, if_neg a, if_neg a2, if_pos h]
    · rw [vlF, if_neg a, if_neg a2, if_neg a3, if_pos h]
    · rw [vlF, if_neg a, if_neg a2, if_neg a3, if_neg a4, if_pos h]
    · rw [vlF, if_neg a, if_neg a2, if_neg a3, if_neg a4, if_neg a5, if_pos h]
    · rw [vlF, if_neg a, if_neg a2, if_neg a3, if_neg a4, if_neg a5, if_neg a6, if_neg hc6, r3 _ (a63 _).2]
  have n76 : ¬ (7 : Int32) = 6 := by decide
  -- a value is written
  have wr1 : ∀ w, onF (O 5 k) r.1 = true → ¬ (O 0 k = 6 ∧ r.1 (O 3 k).toNatClampNeg = 0) → ¬ O 0 k = 8 → ¬ O 0 k = 9 → w = vlF (O 0 k) (r.1 (O 2 k).toNatClampNeg) (r.1 (O 3 k).toNatClampNeg) (O 4 k) r.2.1 → Q (.inl none, stM M (o + 2) (O 1 k).toNatClampNeg w, κ) := by
    intro w h1 h2 h3 h4 h5
    have hop : opS O k r = some (up r.1 (O 1 k).toNatClampNeg (vlF (O 0 k) (r.1 (O 2 k).toNatClampNeg) (r.1 (O 3 k).toNatClampNeg) (O 4 k) r.2.1), r.2.1, r.2.2.1, r.2.2.2) := by rw [opS, if_pos h1, if_neg h2, if_neg h3, if_neg h4]
    refine K1 _ hop _ (fun x j n1 n2 => stM_n (by omega)) ⟨(stM_n (by omega)).trans r0, fun i hi hi2 => (stM_o (by omega)).trans (r1 i hi hi2), fun i hi => up_get (fun e => (stM_j e).trans (r2 i hi)) (fun e => by rw [e, stM_s, h5]), fun i hi => (stM_o (by omega)).trans (r3 i hi)⟩
  refine S52_0 (r_7 := onF (O 5 k) r.1) (r_147 := vlF (O 0 k) (r.1 (O 2 k).toNatClampNeg) (r.1 (O 3 k).toNatClampNeg) (O 4 k) r.2.1) hκ hb ho hk hn hO (c53 hκ ho k5 r2) (fun _ => d2.1) (fun _ => d3.1) (fun _ h _ => ho56 _ h) (fun _ _ _ => d1.1) (fun _ _ _ _ => (a63 _).1) (fun _ h _ _ _ => ho56 _ h) (fun _ _ _ _ _ => d1.1) (fun h hh => ?_) (fun h h6 => ?_) (fun h h6 h7 h8 h9 => ?_) (fun h => ?_)
  · have hn6 : ¬ O 0 k = 6 := by
      rcases hh with hh | hh | hh
      · exact hh.1
      · exact hh.1
      · exact hh.1
    have hno : ¬ (O 0 k = 6 ∧ r.1 (O 3 k).toNatClampNeg = 0) := fun c => hn6 c.1
    by_cases q7 : O 0 k = 7
    · rw [if_pos q7]
      exact wr1 _ h hno (by rw [q7]; decide) (by rw [q7]; decide) rfl
    · rw [if_neg q7]
      by_cases q8 : O 0 k = 8
      · rw [if_pos q8]
        have hop : opS O k r = some (r.1, up r.2.1 ((r.1 (O 2 k).toNatClampNeg + O 4 k) &&& 63).toNatClampNeg (r.1 (O 3 k).toNatClampNeg), r.2.2.1, r.2.2.2) := by rw [opS, if_pos h, if_neg hno, if_pos q8]
        refine K1 _ hop _ (fun x j n1 n2 => stM_n (by omega)) ⟨(stM_n (by omega)).trans r0, fun i hi hi2 => (stM_o (by omega)).trans (r1 i hi hi2), fun i hi => (stM_o (by omega)).trans (r2 i hi), fun i hi => up_get (fun e => ?_) (fun e => ?_)⟩
        · rw [e2, stM_j e]
          exact r3 i hi
        · rw [e2, e, stM_s, e3]
      · rw [if_neg q8]
        refine wr1 _ h hno q8 (fun q9 => ?_) rfl
        rcases hh with hh | hh | hh
        · exact q7 hh.2
        · exact q8 hh.2.2
        · exact hh.2.2.2 q9
  · refine S55_0 hκ ho (fun h => h) (fun _ => d1.1) ⟨none, _, κ, rfl, ?_⟩
    refine w_weak (lle_u (lle_u (lle_u (lle_u (lle_u (lle_u lle_n)))))) (S52_122 hκ ?_)
    rw [e3, e2]
    by_cases q : r.1 (O 3 k).toNatClampNeg = 0
    · rw [if_pos q]
      exact K0 (by rw [opS, if_pos h, if_pos ⟨h6, q⟩])
    · rw [if_neg q]
      refine wr1 _ h (fun c => q c.2) (by rw [h6]; decide) (by rw [h6]; decide) ?_
      rw [vlF, h6]
      rfl
  · refine S54_0 hκ ho (fun hlt => ?_) ⟨none, _, κ, rfl, ?_⟩
    · rw [r0] at hlt ⊢
      rw [ltI, nI_toInt (by omega), show (64 : Int32).toInt = 64 by decide] at hlt
      exact vp_in_nI (by omega) (by decide)
    · refine w_weak (lle_u (lle_u (lle_u (lle_u (lle_u (lle_u lle_n)))))) (S52_106 hκ ?_)
      have hlt : M o 0 < 64 ↔ r.2.2.1 < 64 := by
        rw [r0, ltI, nI_toInt (by omega), show (64 : Int32).toInt = 64 by decide]
        omega
      have hno : ¬ (O 0 k = 6 ∧ r.1 (O 3 k).toNatClampNeg = 0) := fun c => h6 c.1
      rw [e2]
      by_cases q : r.2.2.1 < 64
      · rw [if_pos (hlt.mpr q), r0, nI_clamp (by omega), stM_n (by omega), r0, ← nI_succ]
        have hop : opS O k r = some (r.1, r.2.1, r.2.2.1 + 1, up r.2.2.2 r.2.2.1 (r.1 (O 2 k).toNatClampNeg)) := by rw [opS, if_pos h, if_neg hno, if_neg h8, if_pos h9, if_pos q]
        refine K1 _ hop _ (fun x j n1 n2 => by rw [stM_n (by omega), stM_n (by omega)]) ⟨stM_s, fun i hi hi2 => up_get (fun e => ?_) (fun e => ?_), fun i hi => ?_, fun i hi => ?_⟩
        · have hi2' : i < r.2.2.1 + 1 := hi2
          rw [stM_o (by omega), stM_j e]
          exact r1 i hi (by omega)
        · rw [stM_o (by omega), e, stM_s]
        · rw [stM_o (by omega), stM_o (by omega)]
          exact r2 i hi
        · rw [stM_o (by omega), stM_o (by omega)]
          exact r3 i hi
      · rw [if_neg (fun c => q (hlt.mp c)), r0, ← nI_succ]
        have hop : opS O k r = some (r.1, r.2.1, r.2.2.1 + 1, r.2.2.2) := by rw [opS, if_pos h, if_neg hno, if_neg h8, if_pos h9, if_neg q]
        refine K1 _ hop _ (fun x j n1 n2 => stM_n (by omega)) ⟨stM_s, fun i hi hi2 => (stM_o (by omega)).trans (r1 i hi (by omega)), fun i hi => (stM_o (by omega)).trans (r2 i hi), fun i hi => (stM_o (by omega)).trans (r3 i hi)⟩
  · exact K1 r (by rw [opS, if_neg h]) M (fun _ _ _ _ => rfl) ⟨r0, r1, r2, r3⟩
theorem c138 (hκ : Rd κ) (hx : x < 6) (hk : k < n) (hn : n ≤ 10) (hO : ∀ f, f < 6 → ∀ j, j < n → M (152 + f) (10 * x + j) = O f j) (hOk : Ook O n) (hv : ∀ i, i < 12 → M 174 i = r.1 i) : Run 138 (0, entL 138 [.ref 134, .int (nI ((10 * x) + k))], [], M, κ) (.inl (some (.int (bI (onF (O 5 k) r.1)))), M, κ) := by
  have hgr := grng (hOk k hk).2.2.2.2
  refine RT_run (S138_0 hκ hx hk hn hO (fun _ h => (hgr.1 h).1) (fun h h2 => (hgr.2 h h2).1) ?_)
  refine oi (congrArg bI ?_)
  unfold onF
  by_cases q0 : O 5 k = 0
  · rw [if_pos q0, if_pos q0]
  · rw [if_neg q0, if_neg q0]
    by_cases q : 0 < O 5 k
    · rw [if_pos q, if_pos q, hv _ (hgr.1 q).2]
    · rw [if_neg q, if_neg q, hv _ (hgr.2 q0 q).2]
theorem f139 (hκ : Rd κ) (hx : x < 6) (hk : k < n) (hn : n ≤ 10) (hO : ∀ f, f < 6 → ∀ j, j < n → M (152 + f) (10 * x + j) = O f j) (hOk : Ook O n) (hR : RMo M r) (hoc : r.2.2.1 ≤ 5000)
    (K0 : opS O k r = none → Q (.inl (some (.int 0)), M, κ))
    (K1 : ∀ r', opS O k r = some r' → ∀ M', frR M M' → RMo M' r' → Q (.inl (some (.int 1)), M', κ)) : RT 139 (0, entL 139 [.ref 134, .int (nI ((10 * x) + k))], [], M, κ) Q := by
  obtain ⟨k0, k1, k2, k3, k5⟩ := hOk k hk
  obtain ⟨r0, r1, r2, r3⟩ := hR
  have d1 := v12 k1
  have d2 := v12 k2
  have d3 := v12 k3
  have e2 := r2 _ d2.2
  have e3 := r2 _ d3.2
  have wr1 : ∀ w, onF (O 5 k) r.1 = true → ¬ (O 0 k = 6 ∧ r.1 (O 3 k).toNatClampNeg = 0) → ¬ O 0 k = 8 → ¬ O 0 k = 9 → w = vlF (O 0 k) (r.1 (O 2 k).toNatClampNeg) (r.1 (O 3 k).toNatClampNeg) (O 4 k) r.2.1 → Q (.inl (some (.int 1)), stM M 174 (O 1 k).toNatClampNeg w, κ) := by
    intro w h1 h2 h3 h4 h5
    have hop : opS O k r = some (up r.1 (O 1 k).toNatClampNeg (vlF (O 0 k) (r.1 (O 2 k).toNatClampNeg) (r.1 (O 3 k).toNatClampNeg) (O 4 k) r.2.1), r.2.1, r.2.2.1, r.2.2.2) := by rw [opS, if_pos h1, if_neg h2, if_neg h3, if_neg h4]
    refine K1 _ hop _ (fun x j n1 n2 => stM_n (by omega)) ⟨(stM_n (by omega)).trans r0, fun i hi hi2 => (stM_o (by decide)).trans (r1 i hi hi2), fun i hi => up_get (fun e => (stM_j e).trans (r2 i hi)) (fun e => by rw [e, stM_s, h5]), fun i hi => (stM_o (by decide)).trans (r3 i hi)⟩
  refine S139_0 (r_2 := onF (O 5 k) r.1) hκ hx hk hn hO (c138 hκ hx hk hn hO hOk r2) (fun _ => d2.1) (fun _ => d3.1) (fun _ _ => d1.1) (fun _ _ _ => d1.1) (fun _ _ _ _ => d1.1) (fun _ _ _ _ _ => d1.1) (fun _ _ _ _ _ _ => d1.1) (fun _ _ _ _ _ _ _ => d1.1) (fun _ _ _ _ _ _ _ _ h => h) (fun _ _ _ _ _ _ _ _ _ => d1.1) (fun _ _ _ _ _ _ _ _ _ => (a63 _).1) (fun _ _ _ _ _ _ _ _ _ => d1.1) (fun _ _ _ _ _ _ _ _ _ _ => (a63 _).1) (fun _ _ _ _ _ _ _ _ _ _ hlt => ?_) (fun h hh => ?_) (fun h a0 a1 a2 a3 a4 a5 h6 hz => ?_) (fun h => ?_)
  · rw [r0] at hlt ⊢
    rw [ltI, nI_toInt (by omega), show (64 : Int32).toInt = 64 by decide] at hlt
    exact vp_in_nI (by omega) (by decide)
  · have hno : ¬ (O 0 k = 6 ∧ r.1 (O 3 k).toNatClampNeg = 0) := by
      rintro ⟨c1, c2⟩
      rw [← e3] at c2
      rw [c1] at hh
      have z : ∀ a : Int32, ¬ a = 6 → ((6 : Int32) = a) → False := fun a h1 h2 => h1 h2.symm
      rcases hh with hh | hh | hh | hh | hh | hh | hh | hh | hh | hh
      · exact absurd hh (by decide)
      · exact absurd hh.2 (by decide)
      · exact absurd hh.2.2 (by decide)
      · exact absurd hh.2.2.2 (by decide)
      · exact absurd hh.2.2.2.2 (by decide)
      · exact absurd hh.2.2.2.2.2 (by decide)
      · exact hh.2.2.2.2.2.2.2 c2
      · exact absurd rfl hh.2.2.2.2.2.2.1
      · exact absurd rfl hh.2.2.2.2.2.2.1
      · exact absurd rfl hh.2.2.2.2.2.2.1
    clear hh
    have nz : ∀ a : Int32, O 0 k = a → ¬ a = 8 → ¬ a = 9 → ¬ O 0 k = 8 ∧ ¬ O 0 k = 9 := fun a h1 h2 h3 => ⟨fun c => h2 (h1.symm.trans c), fun c => h3 (h1.symm.trans c)⟩
    rw [e2, e3]
    by_cases q0 : O 0 k = 0
    · rw [if_pos q0]
      have := nz _ q0 (by decide) (by decide)
      exact wr1 _ h hno this.1 this.2 (by rw [vlF, if_pos q0])
    rw [if_neg q0]
    by_cases q1 : O 0 k = 1
    · rw [if_pos q1]
      have := nz _ q1 (by decide) (by decide)
      exact wr1 _ h hno this.1 this.2 (by rw [vlF, if_neg q0, if_pos q1])
    rw [if_neg q1]
    by_cases q2 : O 0 k = 2
    · rw [if_pos q2]
      have := nz _ q2 (by decide) (by decide)
      exact wr1 _ h hno this.1 this.2 (by rw [vlF, if_neg q0, if_neg q1, if_pos q2])
    rw [if_neg q2]
    by_cases q3 : O 0 k = 3
    · rw [if_pos q3]
      have := nz _ q3 (by decide) (by decide)
      exact wr1 _ h hno this.1 this.2 (by rw [vlF, if_neg q0, if_neg q1, if_neg q2, if_pos q3])
    rw [if_neg q3]
    by_cases q4 : O 0 k = 4
    · rw [if_pos q4]
      have := nz _ q4 (by decide) (by decide)
      exact wr1 _ h hno this.1 this.2 (by rw [vlF, if_neg q0, if_neg q1, if_neg q2, if_neg q3, if_pos q4])
    rw [if_neg q4]
    by_cases q5 : O 0 k = 5
    · rw [if_pos q5]
      have := nz _ q5 (by decide) (by decide)
      exact wr1 _ h hno this.1 this.2 (by rw [vlF, if_neg q0, if_neg q1, if_neg q2, if_neg q3, if_neg q4, if_pos q5])
    rw [if_neg q5]
    by_cases q6 : O 0 k = 6
    · rw [if_pos q6]
      have := nz _ q6 (by decide) (by decide)
      exact wr1 _ h hno this.1 this.2 (by rw [vlF, if_neg q0, if_neg q1, if_neg q2, if_neg q3, if_neg q4, if_neg q5, if_pos q6])
    rw [if_neg q6]
    by_cases q7 : O 0 k = 7
    · rw [if_pos q7]
      have := nz _ q7 (by decide) (by decide)
      exact wr1 _ h hno this.1 this.2 (by rw [vlF, if_neg q0, if_neg q1, if_neg q2, if_neg q3, if_neg q4, if_neg q5, if_neg q6, r3 _ (a63 _).2])
    rw [if_neg q7]
    by_cases q8 : O 0 k = 8
    · rw [if_pos q8]
      have hop : opS O k r = some (r.1, up r.2.1 ((r.1 (O 2 k).toNatClampNeg + O 4 k) &&& 63).toNatClampNeg (r.1 (O 3 k).toNatClampNeg), r.2.2.1, r.2.2.2) := by rw [opS, if_pos h, if_neg hno, if_pos q8]
      refine K1 _ hop _ (fun x j n1 n2 => stM_n (by omega)) ⟨(stM_n (by omega)).trans r0, fun i hi hi2 => (stM_o (by decide)).trans (r1 i hi hi2), fun i hi => (stM_o (by decide)).trans (r2 i hi), fun i hi => up_get (fun e => ?_) (fun e => ?_)⟩
      · rw [stM_j e]
        exact r3 i hi
      · rw [e, stM_s]
    rw [if_neg q8]
    have q9 : O 0 k = 9 := by
      rw [eI] at q0 q1 q2 q3 q4 q5 q6 q7 q8 ⊢
      rw [c0] at q0
      rw [t1] at q1
      rw [c2'] at q2
      rw [c3'] at q3
      rw [c4'] at q4
      rw [c5'] at q5
      rw [c6'] at q6
      rw [c7'] at q7
      rw [c8'] at q8
      rw [c9']
      clear wr1 K0 K1 nz
      generalize (O 0 k).toInt = z at q0 q1 q2 q3 q4 q5 q6 q7 q8 k0 ⊢
      omega
    have hlt : M 134 54 < (64 : Int32) ↔ r.2.2.1 < 64 := by
      rw [r0, ltI, nI_toInt (by omega), show (64 : Int32).toInt = 64 by decide]
      omega
    by_cases q : r.2.2.1 < 64
    · rw [if_pos (hlt.mpr q), r0, nI_clamp (by omega), stM_n (by omega), r0, ← nI_succ]
      have hop : opS O k r = some (r.1, r.2.1, r.2.2.1 + 1, up r.2.2.2 r.2.2.1 (r.1 (O 2 k).toNatClampNeg)) := by rw [opS, if_pos h, if_neg hno, if_neg q8, if_pos q9, if_pos q]
      refine K1 _ hop _ (fun x j n1 n2 => by rw [stM_n (by omega), stM_n (by omega)]) ⟨stM_s, fun i hi hi2 => up_get (fun e => ?_) (fun e => ?_), fun i hi => ?_, fun i hi => ?_⟩
      · have hi2' : i < r.2.2.1 + 1 := hi2
        rw [stM_o (by decide), stM_j e]
        exact r1 i hi (by omega)
      · rw [stM_o (by decide), e, stM_s]
      · rw [stM_o (by decide), stM_o (by decide)]
        exact r2 i hi
      · rw [stM_o (by decide), stM_o (by decide)]
        exact r3 i hi
    · rw [if_neg (fun c => q (hlt.mp c)), r0, ← nI_succ]
      have hop : opS O k r = some (r.1, r.2.1, r.2.2.1 + 1, r.2.2.2) := by rw [opS, if_pos h, if_neg hno, if_neg q8, if_pos q9, if_neg q]
      refine K1 _ hop _ (fun x j n1 n2 => stM_n (by omega)) ⟨stM_s, fun i hi hi2 => (stM_o (by decide)).trans (r1 i hi (by omega)), fun i hi => (stM_o (by decide)).trans (r2 i hi), fun i hi => (stM_o (by decide)).trans (r3 i hi)⟩
  · rw [e3] at hz
    exact K0 (by rw [opS, if_pos h, if_pos ⟨h6, hz⟩])
  · exact K1 r (by rw [opS, if_neg h]) M (fun _ _ _ _ => rfl) ⟨r0, r1, r2, r3⟩
end OP
end P_47_op
