/-! compile, run, result, output, variable, on both sides -/
section P_55_ask
theorem i_144_0 : ins 144 0 = some (.aload_n 0, 1, 0, 0, 0, 0) := rfl
theorem i_144_1 : ins 144 1 = some (.iload_n 1, 2, 1, 0, 0, 0) := rfl
theorem i_144_2 : ins 144 2 = some (.iconst 0, 3, 0, 0, 0, 0) := rfl
theorem i_144_3 : ins 144 3 = some (.iconst 2, 4, 0, 0, 0, 2) := rfl
theorem i_144_4 : ins 144 4 = some (.invokestatic 162, 7, 95, 1, 3, 0) := rfl
theorem i_144_7 : ins 144 7 = some (.ifCond .eq 7, 10, 14, 0, 0, 0) := rfl
theorem i_144_10 : ins 144 10 = some (.iconst 1, 11, 0, 0, 0, 1) := rfl
theorem i_144_11 : ins 144 11 = some (.goto 4, 14, 15, 0, 0, 0) := rfl
theorem i_144_14 : ins 144 14 = some (.iconst 0, 15, 0, 0, 0, 0) := rfl
theorem i_144_15 : ins 144 15 = some (.putfield 159, 18, 7, 0, 0, 0) := rfl
theorem i_144_18 : ins 144 18 = some (.aload_n 0, 19, 0, 0, 0, 0) := rfl
theorem i_144_19 : ins 144 19 = some (.getfield 159, 22, 7, 0, 0, 0) := rfl
theorem i_144_22 : ins 144 22 = some (.ifCond .le 7, 25, 29, 0, 0, 0) := rfl
theorem i_144_25 : ins 144 25 = some (.iconst 0, 26, 0, 0, 0, 0) := rfl
theorem i_144_26 : ins 144 26 = some (.goto 30, 29, 56, 0, 0, 0) := rfl
theorem i_144_29 : ins 144 29 = some (.iload_n 1, 30, 1, 0, 0, 0) := rfl
theorem i_144_30 : ins 144 30 = some (.ifCond .ne 10, 33, 40, 0, 0, 0) := rfl
theorem i_144_33 : ins 144 33 = some (.aload_n 0, 34, 0, 0, 0, 0) := rfl
theorem i_144_34 : ins 144 34 = some (.getfield 319, 37, 7, 53, 0, 0) := rfl
theorem i_144_37 : ins 144 37 = some (.goto 19, 40, 56, 0, 0, 0) := rfl
theorem i_144_40 : ins 144 40 = some (.iload_n 1, 41, 1, 0, 0, 0) := rfl
theorem i_144_41 : ins 144 41 = some (.iconst 1, 42, 0, 0, 0, 1) := rfl
theorem i_144_42 : ins 144 42 = some (.if_icmp .ne 10, 45, 52, 0, 0, 0) := rfl
theorem i_144_45 : ins 144 45 = some (.aload_n 0, 46, 0, 0, 0, 0) := rfl
theorem i_144_46 : ins 144 46 = some (.getfield 316, 49, 7, 56, 0, 0) := rfl
theorem i_144_49 : ins 144 49 = some (.goto 7, 52, 56, 0, 0, 0) := rfl
theorem i_144_52 : ins 144 52 = some (.aload_n 0, 53, 0, 0, 0, 0) := rfl
theorem i_144_53 : ins 144 53 = some (.getfield 313, 56, 7, 55, 0, 0) := rfl
theorem i_144_56 : ins 144 56 = some (.ireturn, 57, 0, 0, 0, 0) := rfl
theorem S144_0 {Q : Ou → Prop} {M : Mem} {κ : Kp} (hκ : Rd κ) {oc tu : Nat} {tp : Bool} (hoc : M 134 53 = nI oc) (htu : M 134 55 = nI tu) (htp : M 134 56 = bI tp) {wh : Int32}
    (k1 : Q (.inl (some (.int (if 0 < (bI (if (outR wh 0 2) = true then true else false)) then 0 else (if wh = 0 then (nI oc) else (if wh = 1 then (bI tp) else (nI tu)))))), (stM M 134 0 (bI (if (outR wh 0 2) = true then true else false))), κ))
    : RT 144 (0, [.ref 134, .int wh], [], M, κ) Q := by
  refine w_load i_144_0 rfl rfl ?_
  refine w_load i_144_1 rfl rfl ?_
  refine w_push i_144_2 rfl ?_
  refine w_push i_144_3 rfl ?_
  refine w_callS i_144_4 ⟨by decide, by decide, by decide, rfl, rfl⟩ (av := [.int wh, .int 0, .int 2]) (rest := [.ref 134]) rfl rfl (Nat.le_of_ble_eq_true rfl) (v := some (.int (bI (outR wh 0 2)))) (c95 hκ) ?_
  have K1 : RT 144 (15, [.ref 134, .int wh], [.int (bI (if (outR wh 0 2) = true then true else false)), .ref 134], M, κ) Q := by
    refine w_putI i_144_15 hκ (⟨rfl, by decide⟩ : isOb 134 7) rfl (fun c => absurd c (by decide)) ?_
    refine w_load i_144_18 rfl rfl ?_
    refine w_getI (v := (bI (if (outR wh 0 2) = true then true else false))) i_144_19 hκ (⟨rfl, by decide⟩ : isOb 134 7) rfl (stM_s) ?_
    have K2 : RT 144 (56, [.ref 134, .int wh], [.int (if 0 < (bI (if (outR wh 0 2) = true then true else false)) then 0 else (if wh = 0 then (nI oc) else (if wh = 1 then (bI tp) else (nI tu))))], (stM M 134 0 (bI (if (outR wh 0 2) = true then true else false))), κ) Q := by
      exact w_iret i_144_56 (.inl rfl) (k1)
    refine w_if0n (0 < (bI (if (outR wh 0 2) = true then true else false))) i_144_22 cI0_le ?_ ?_
    · intro h3
      refine w_push i_144_25 rfl ?_
      refine w_goto i_144_26 ?_
      exact (by first | exact (K2) | (have K9 := K2; simp only [↓if_pos h3] at K9 ⊢; exact (K9)))
    · intro h4
      refine w_load i_144_29 rfl rfl ?_
      refine w_if0n (wh = 0) i_144_30 cI0_ne ?_ ?_
      · intro h5
        refine w_load i_144_33 rfl rfl ?_
        refine w_getI (v := (nI oc)) i_144_34 hκ (⟨rfl, by decide⟩ : isOb 134 7) rfl ((stM_j (by decide)).trans (hoc)) ?_
        refine w_goto i_144_37 ?_
        exact (by first | exact (K2) | (have K9 := K2; simp only [↓if_neg h4, ↓if_pos h5] at K9 ⊢; exact (K9)))
      · intro h6
        refine w_load i_144_40 rfl rfl ?_
        refine w_push i_144_41 rfl ?_
        refine w_if2n (wh = 1) i_144_42 cI_ne ?_ ?_
        · intro h7
          refine w_load i_144_45 rfl rfl ?_
          refine w_getI (v := (bI tp)) i_144_46 hκ (⟨rfl, by decide⟩ : isOb 134 7) rfl ((stM_j (by decide)).trans (htp)) ?_
          refine w_goto i_144_49 ?_
          exact (by first | exact (K2) | (have K9 := K2; simp only [↓if_neg h4, ↓if_neg h6, ↓if_pos h7] at K9 ⊢; exact (K9)))
        · intro h8
          refine w_load i_144_52 rfl rfl ?_
          refine w_getI (v := (nI tu)) i_144_53 hκ (⟨rfl, by decide⟩ : isOb 134 7) rfl ((stM_j (by decide)).trans (htu)) ?_
          exact (by first | exact (K2) | (have K9 := K2; simp only [↓if_neg h4, ↓if_neg h6, ↓if_neg h8] at K9 ⊢; exact (K9)))
  refine w_if0n ((outR wh 0 2) = true) i_144_7 cB_eq ?_ ?_
  · intro h9
    refine w_push i_144_10 rfl ?_
    refine w_goto i_144_11 ?_
    exact (by first | exact (K1) | (have K9 := K1; simp only [↓if_pos h9] at K9 ⊢; exact (K9)))
  · intro h10
    refine w_push i_144_14 rfl ?_
    exact (by first | exact (K1) | (have K9 := K1; simp only [↓if_neg h10] at K9 ⊢; exact (K9)))
theorem i_145_0 : ins 145 0 = some (.aload_n 0, 1, 0, 0, 0, 0) := rfl
theorem i_145_1 : ins 145 1 = some (.iload_n 1, 2, 1, 0, 0, 0) := rfl
theorem i_145_2 : ins 145 2 = some (.iconst 0, 3, 0, 0, 0, 0) := rfl
theorem i_145_3 : ins 145 3 = some (.bipush 63, 5, 0, 0, 0, 63) := rfl
theorem i_145_5 : ins 145 5 = some (.invokestatic 162, 8, 95, 1, 3, 0) := rfl
theorem i_145_8 : ins 145 8 = some (.ifCond .ne 11, 11, 19, 0, 0, 0) := rfl
theorem i_145_11 : ins 145 11 = some (.iload_n 1, 12, 1, 0, 0, 0) := rfl
theorem i_145_12 : ins 145 12 = some (.aload_n 0, 13, 0, 0, 0, 0) := rfl
theorem i_145_13 : ins 145 13 = some (.getfield 319, 16, 7, 53, 0, 0) := rfl
theorem i_145_16 : ins 145 16 = some (.if_icmp .lt 7, 19, 23, 0, 0, 0) := rfl
theorem i_145_19 : ins 145 19 = some (.iconst 1, 20, 0, 0, 0, 1) := rfl
theorem i_145_20 : ins 145 20 = some (.goto 4, 23, 24, 0, 0, 0) := rfl
theorem i_145_23 : ins 145 23 = some (.iconst 0, 24, 0, 0, 0, 0) := rfl
theorem i_145_24 : ins 145 24 = some (.putfield 159, 27, 7, 0, 0, 0) := rfl
theorem i_145_27 : ins 145 27 = some (.aload_n 0, 28, 0, 0, 0, 0) := rfl
theorem i_145_28 : ins 145 28 = some (.getfield 159, 31, 7, 0, 0, 0) := rfl
theorem i_145_31 : ins 145 31 = some (.ifCond .le 7, 34, 38, 0, 0, 0) := rfl
theorem i_145_34 : ins 145 34 = some (.iconst 0, 35, 0, 0, 0, 0) := rfl
theorem i_145_35 : ins 145 35 = some (.goto 9, 38, 44, 0, 0, 0) := rfl
theorem i_145_38 : ins 145 38 = some (.aload_n 0, 39, 0, 0, 0, 0) := rfl
theorem i_145_39 : ins 145 39 = some (.getfield 153, 42, 7, 51, 0, 0) := rfl
theorem i_145_42 : ins 145 42 = some (.iload_n 1, 43, 1, 0, 0, 0) := rfl
theorem i_145_43 : ins 145 43 = some (.iaload, 44, 0, 0, 0, 0) := rfl
theorem i_145_44 : ins 145 44 = some (.ireturn, 45, 0, 0, 0, 0) := rfl
theorem S145_0 {Q : Ou → Prop} {M : Mem} {κ : Kp} (hκ : Rd κ) {oc tu : Nat} {tp : Bool} (hoc : M 134 53 = nI oc) (htu : M 134 55 = nI tu) (htp : M 134 56 = bI tp) (hoc1 : oc ≤ 1000) {ix : Int32}
    (o1 : ¬ (0 < (bI (if (outR ix 0 63) = true then true else (if ix < (nI oc) then false else true)))) → vp_in ix 64)
    (k1 : Q (.inl (some (.int (if 0 < (bI (if (outR ix 0 63) = true then true else (if ix < (nI oc) then false else true))) then 0 else (M 176 ix.toNatClampNeg)))), (stM M 134 0 (bI (if (outR ix 0 63) = true then true else (if ix < (nI oc) then false else true)))), κ))
    : RT 145 (0, [.ref 134, .int ix], [], M, κ) Q := by
  refine w_load i_145_0 rfl rfl ?_
  refine w_load i_145_1 rfl rfl ?_
  refine w_push i_145_2 rfl ?_
  refine w_push i_145_3 rfl ?_
  refine w_callS i_145_5 ⟨by decide, by decide, by decide, rfl, rfl⟩ (av := [.int ix, .int 0, .int 63]) (rest := [.ref 134]) rfl rfl (Nat.le_of_ble_eq_true rfl) (v := some (.int (bI (outR ix 0 63)))) (c95 hκ) ?_
  have K1 : RT 145 (24, [.ref 134, .int ix], [.int (bI (if (outR ix 0 63) = true then true else (if ix < (nI oc) then false else true))), .ref 134], M, κ) Q := by
    refine w_putI i_145_24 hκ (⟨rfl, by decide⟩ : isOb 134 7) rfl (fun c => absurd c (by decide)) ?_
    refine w_load i_145_27 rfl rfl ?_
    refine w_getI (v := (bI (if (outR ix 0 63) = true then true else (if ix < (nI oc) then false else true)))) i_145_28 hκ (⟨rfl, by decide⟩ : isOb 134 7) rfl (stM_s) ?_
    have K2 : RT 145 (44, [.ref 134, .int ix], [.int (if 0 < (bI (if (outR ix 0 63) = true then true else (if ix < (nI oc) then false else true))) then 0 else (M 176 ix.toNatClampNeg))], (stM M 134 0 (bI (if (outR ix 0 63) = true then true else (if ix < (nI oc) then false else true)))), κ) Q := by
      exact w_iret i_145_44 (.inl rfl) (k1)
    refine w_if0n (0 < (bI (if (outR ix 0 63) = true then true else (if ix < (nI oc) then false else true)))) i_145_31 cI0_le ?_ ?_
    · intro h3
      refine w_push i_145_34 rfl ?_
      refine w_goto i_145_35 ?_
      exact (by first | exact (K2) | (have K9 := K2; simp only [↓if_pos h3] at K9 ⊢; exact (K9)))
    · intro h4
      refine w_load i_145_38 rfl rfl ?_
      refine w_getR 176 i_145_39 hκ (⟨rfl, by decide⟩ : isOb 134 7) rfl rfl ?_
      refine w_load i_145_42 rfl rfl ?_
      refine w_iald (v := (M 176 ix.toNatClampNeg)) i_145_43 hκ (⟨rfl, rfl, by decide⟩ : isAr 176 64) (o1 h4) ((stM_o (by decide)).trans (rfl)) ?_
      exact (by first | exact (K2) | (have K9 := K2; simp only [↓if_neg h4] at K9 ⊢; exact (K9)))
  refine w_if0 ((outR ix 0 63) = true) i_145_8 cB_ne ?_ ?_
  · intro h5
    refine w_push i_145_19 rfl ?_
    refine w_goto i_145_20 ?_
    exact (by first | exact (K1) | (have K9 := K1; simp only [↓if_pos h5] at K9 ⊢; exact (K9)))
  · intro h6
    refine w_load i_145_11 rfl rfl ?_
    refine w_load i_145_12 rfl rfl ?_
    refine w_getI (v := (nI oc)) i_145_13 hκ (⟨rfl, by decide⟩ : isOb 134 7) rfl (hoc) ?_
    refine w_if2 (ix < (nI oc)) i_145_16 cI_lt ?_ ?_
    · intro h7
      refine w_push i_145_23 rfl ?_
      exact (by first | exact (K1) | (have K9 := K1; simp only [↓if_neg h6, ↓if_pos h7] at K9 ⊢; exact (K9)))
    · intro h8
      refine w_push i_145_19 rfl ?_
      refine w_goto i_145_20 ?_
      exact (by first | exact (K1) | (have K9 := K1; simp only [↓if_neg h6, ↓if_neg h8] at K9 ⊢; exact (K9)))
theorem i_146_0 : ins 146 0 = some (.aload_n 0, 1, 0, 0, 0, 0) := rfl
theorem i_146_1 : ins 146 1 = some (.iload_n 1, 2, 1, 0, 0, 0) := rfl
theorem i_146_2 : ins 146 2 = some (.iconst 0, 3, 0, 0, 0, 0) := rfl
theorem i_146_3 : ins 146 3 = some (.bipush 11, 5, 0, 0, 0, 11) := rfl
theorem i_146_5 : ins 146 5 = some (.invokestatic 162, 8, 95, 1, 3, 0) := rfl
theorem i_146_8 : ins 146 8 = some (.ifCond .eq 7, 11, 15, 0, 0, 0) := rfl
theorem i_146_11 : ins 146 11 = some (.iconst 1, 12, 0, 0, 0, 1) := rfl
theorem i_146_12 : ins 146 12 = some (.goto 4, 15, 16, 0, 0, 0) := rfl
theorem i_146_15 : ins 146 15 = some (.iconst 0, 16, 0, 0, 0, 0) := rfl
theorem i_146_16 : ins 146 16 = some (.putfield 159, 19, 7, 0, 0, 0) := rfl
theorem i_146_19 : ins 146 19 = some (.aload_n 0, 20, 0, 0, 0, 0) := rfl
theorem i_146_20 : ins 146 20 = some (.getfield 159, 23, 7, 0, 0, 0) := rfl
theorem i_146_23 : ins 146 23 = some (.ifCond .le 7, 26, 30, 0, 0, 0) := rfl
theorem i_146_26 : ins 146 26 = some (.iconst 0, 27, 0, 0, 0, 0) := rfl
theorem i_146_27 : ins 146 27 = some (.goto 9, 30, 36, 0, 0, 0) := rfl
theorem i_146_30 : ins 146 30 = some (.aload_n 0, 31, 0, 0, 0, 0) := rfl
theorem i_146_31 : ins 146 31 = some (.getfield 150, 34, 7, 50, 0, 0) := rfl
theorem i_146_34 : ins 146 34 = some (.iload_n 1, 35, 1, 0, 0, 0) := rfl
theorem i_146_35 : ins 146 35 = some (.iaload, 36, 0, 0, 0, 0) := rfl
theorem i_146_36 : ins 146 36 = some (.ireturn, 37, 0, 0, 0, 0) := rfl
theorem S146_0 {Q : Ou → Prop} {M : Mem} {κ : Kp} (hκ : Rd κ) {oc tu : Nat} {tp : Bool} (hoc : M 134 53 = nI oc) (htu : M 134 55 = nI tu) (htp : M 134 56 = bI tp) {vv : Int32}
    (o1 : ¬ (0 < (bI (if (outR vv 0 11) = true then true else false))) → vp_in vv 12)
    (k1 : Q (.inl (some (.int (if 0 < (bI (if (outR vv 0 11) = true then true else false)) then 0 else (M 175 vv.toNatClampNeg)))), (stM M 134 0 (bI (if (outR vv 0 11) = true then true else false))), κ))
    : RT 146 (0, [.ref 134, .int vv], [], M, κ) Q := by
  refine w_load i_146_0 rfl rfl ?_
  refine w_load i_146_1 rfl rfl ?_
  refine w_push i_146_2 rfl ?_
  refine w_push i_146_3 rfl ?_
  refine w_callS i_146_5 ⟨by decide, by decide, by decide, rfl, rfl⟩ (av := [.int vv, .int 0, .int 11]) (rest := [.ref 134]) rfl rfl (Nat.le_of_ble_eq_true rfl) (v := some (.int (bI (outR vv 0 11)))) (c95 hκ) ?_
  have K1 : RT 146 (16, [.ref 134, .int vv], [.int (bI (if (outR vv 0 11) = true then true else false)), .ref 134], M, κ) Q := by
    refine w_putI i_146_16 hκ (⟨rfl, by decide⟩ : isOb 134 7) rfl (fun c => absurd c (by decide)) ?_
    refine w_load i_146_19 rfl rfl ?_
    refine w_getI (v := (bI (if (outR vv 0 11) = true then true else false))) i_146_20 hκ (⟨rfl, by decide⟩ : isOb 134 7) rfl (stM_s) ?_
    have K2 : RT 146 (36, [.ref 134, .int vv], [.int (if 0 < (bI (if (outR vv 0 11) = true then true else false)) then 0 else (M 175 vv.toNatClampNeg))], (stM M 134 0 (bI (if (outR vv 0 11) = true then true else false))), κ) Q := by
      exact w_iret i_146_36 (.inl rfl) (k1)
    refine w_if0n (0 < (bI (if (outR vv 0 11) = true then true else false))) i_146_23 cI0_le ?_ ?_
    · intro h3
      refine w_push i_146_26 rfl ?_
      refine w_goto i_146_27 ?_
      exact (by first | exact (K2) | (have K9 := K2; simp only [↓if_pos h3] at K9 ⊢; exact (K9)))
    · intro h4
      refine w_load i_146_30 rfl rfl ?_
      refine w_getR 175 i_146_31 hκ (⟨rfl, by decide⟩ : isOb 134 7) rfl rfl ?_
      refine w_load i_146_34 rfl rfl ?_
      refine w_iald (v := (M 175 vv.toNatClampNeg)) i_146_35 hκ (⟨rfl, rfl, by decide⟩ : isAr 175 12) (o1 h4) ((stM_o (by decide)).trans (rfl)) ?_
      exact (by first | exact (K2) | (have K9 := K2; simp only [↓if_neg h4] at K9 ⊢; exact (K9)))
  refine w_if0n ((outR vv 0 11) = true) i_146_8 cB_eq ?_ ?_
  · intro h5
    refine w_push i_146_11 rfl ?_
    refine w_goto i_146_12 ?_
    exact (by first | exact (K1) | (have K9 := K1; simp only [↓if_pos h5] at K9 ⊢; exact (K9)))
  · intro h6
    refine w_push i_146_15 rfl ?_
    exact (by first | exact (K1) | (have K9 := K1; simp only [↓if_neg h6] at K9 ⊢; exact (K9)))
variable {Q : Ou → Prop} {M M0 : Mem} {κ : Kp}
section AS
variable {g : Gs} {mp : Mp} {cf : Bool} {tu : Nat} {tr : Bool} {r : Rs} {M' : Mem}
theorem F71 (hκ : Rd κ) (hg : GOk g) (hm : MpOk mp) (hI : CI g mp cf tu tr r M)
    (K1 : gN g = 0 → Q (.inr 1, M, kT κ))
    (K2 : ¬ gN g = 0 → miss g = true → Q (.inr 2, M, kT κ))
    (K3 : ¬ gN g = 0 → miss g = false → spoi g = true → Q (.inr 0, M, kT κ))
    (K4 : ¬ gN g = 0 → miss g = false → spoi g = false → ∀ M', (∀ x j, 134 ≤ x → M' x j = M x j) → CI g mp true tu tr r M' → Q (.inl (some (.int (rowsC M' (s1 g) (gN g)))), M', κ)) : RT 71 (0, entL 71 [.ref 0], [], M, κ) Q := by
  obtain ⟨o, o2, h1, h2, h3, h4, h5, h6', h7, h8, h9, ha, hb, hc⟩ := hI
  have or := oc_rng h1
  have h6 := hg.1
  refine f71 hκ hg h6' hm h7 K1 K2 K3 (fun a b c M' hf e7 hB hP => K4 a b c M' (fun x j hx => hf x j (by omega) (by omega) (fun ⟨z, q1, q2, q3⟩ => by omega)) ⟨o, o2, h1, h2, h3, (hf _ _ (by omega) (by omega) (fun ⟨z, q1, q2, q3⟩ => by omega)).trans h4, (hf _ _ (by omega) (by omega) (fun ⟨z, q1, q2, q3⟩ => by omega)).trans h5, ?_, CMp_eq (fun j => hf _ _ (by omega) (by omega) (fun ⟨z, q1, q2, q3⟩ => by omega)) h7, e7, RC_eq (fun x j hx => hf x j (by omega) (by omega) (fun ⟨z, q1, q2, q3⟩ => by omega)) h9, (hf _ _ (by omega) (by omega) (fun ⟨z, q1, q2, q3⟩ => by omega)).trans ha, (hf _ _ (by omega) (by omega) (fun ⟨z, q1, q2, q3⟩ => by omega)).trans hb, fun _ => ⟨a, b, hB, hP⟩⟩)
  obtain ⟨i1, i2⟩ := h6'
  refine ⟨(hf _ _ (by omega) (by omega) (fun ⟨z, q1, q2, q3⟩ => by omega)).trans i1, fun z hz => ?_⟩
  obtain ⟨a0, a1, a2, a3, a4, a5⟩ := i2 z hz
  exact ⟨(hf _ _ (by omega) (by omega) (fun ⟨z, q1, q2, q3⟩ => by omega)).trans a0, (hf _ _ (by omega) (by omega) (fun ⟨z, q1, q2, q3⟩ => by omega)).trans a1, (hf _ _ (by omega) (by omega) (fun ⟨z, q1, q2, q3⟩ => by omega)).trans a2, (hf _ _ (by omega) (by omega) (fun ⟨z, q1, q2, q3⟩ => by omega)).trans a3, (hf _ _ (by omega) (by omega) (fun ⟨z, q1, q2, q3⟩ => by omega)).trans a4, fun q hq j hj => (hf _ _ (by omega) (by omega) (fun ⟨z, q1, q2, q3⟩ => by omega)).trans (a5 q hq j hj)⟩
/-- compile, the model: where the class fails, nothing has changed; where it does not, the class has its plans -/
theorem F108 (hκ : Rd κ) (hg : GOk g) (hm : MpOk mp) (hG : GMd M g) (hM : MMp M mp) (hE : MEn M tu tr r)
    (hP : ¬ gN g = 0 → miss g = false → spoi g = false → CCp g mp M)
    (K1 : gN g = 0 → Q (.inl (some (.int 0)), stM M 134 0 1, κ))
    (K2 : ¬ gN g = 0 → miss g = true → Q (.inl (some (.int 0)), stM M 134 0 2, κ))
    (K3 : ¬ gN g = 0 → miss g = false → spoi g = true → Q (.inl (some (.int 0)), stM M 134 0 3, κ))
    (K4 : ¬ gN g = 0 → miss g = false → spoi g = false → ∀ M', (∀ x j, x < 134 → M' x j = M x j) → M' 134 0 = nI 0 → MI g mp true tu tr r M' → Q (.inl (some (.int (rowsC M (s1 g) (gN g)))), M', κ)) : RT 108 (0, entL 108 [.ref 134], [], M, κ) Q := by
  have h6 := hg.1
  refine f108 hκ hg hG hm hM (fun a b c => (hP a b c).2.2.2) K1 K2 K3 (fun a b c M' hf e0 e19 e20 hR hPM => K4 a b c M' (fun x j hx => hf x j (by omega) (by omega)) e0 ⟨GMd_eq h6 (hf _ _ (by omega) (by omega)) (fun x j hx => hf x j (by omega) (by omega)) hG, MMp_eq (fun j hj => hf _ _ (by omega) (by omega)) hM, e19, MEn_eq (fun j hj _ => hf _ _ (by omega) (by omega)) (fun x j hx => hf x j (by omega) (by omega)) hE, fun _ => ⟨e20, hR, hPM⟩⟩)
/-- the numbers of the plans -/
theorem qq_of (hm : MpOk mp) (hg : GOk g) (h : CCp g mp M) : ∃ qq : Nat → Pq, ∀ x, x < gN g → (s1 g).2.2.2.1 x = false → PN M ((s1 g).1 x) ((s1 g).2.2.1 x) (LtO mp ((s1 g).2.2.2.2 x)) (19 + 18 * x) (qq x) := by
  have hs := SIv1 hg h.2.1
  have key : ∀ x, ∃ q : Pq, x < gN g → (s1 g).2.2.2.1 x = false → PN M ((s1 g).1 x) ((s1 g).2.2.1 x) (LtO mp ((s1 g).2.2.2.2 x)) (19 + 18 * x) q := fun x => by
    by_cases hx : x < gN g
    · cases hgo : (s1 g).2.2.2.1 x with
      | true => exact ⟨(0, 0, 0, 0, fun _ => 0, fun _ => 0), fun _ z => by cases z⟩
      | false =>
        obtain ⟨q, hq⟩ := PN_of hm (hs.1 x hx).2.2.2.2.1 (h.2.2.2 x hx hgo)
        exact ⟨q, fun _ _ => hq⟩
    · exact ⟨(0, 0, 0, 0, fun _ => 0, fun _ => 0), fun z => absurd z hx⟩
  exact ⟨fun x => Classical.choose (key x), fun x => Classical.choose_spec (key x)⟩
abbrev rnG (g : Gs) (qq : Nat → Pq) (me : Nat → Int32) : Option (Nat × Nat × Bool × Rs) := rnS (gV g) (gF g) (s1 g) qq 100 0 0 0 (fun _ => 0, me, 0, fun _ => 0)
theorem CI_out {o o2 : Nat} {r' : Rs} {tu' : Nat} {tr' : Bool} (h6 : gN g ≤ 6) (h1 : isOc o) (h2 : isOc o2) (h3 : ¬ o = o2) (h4 : M' 0 8 = nI o) (h5 : M' 0 9 = nI o2) (hf : ∀ x j, ¬ (x = 0 ∧ (j = 8 ∨ j = 9)) → ¬ (126 ≤ x ∧ x ≤ 133) → M' x j = M x j) (hR : RC M' o r') (ht : M' o 1 = nI tu') (htr : M' o 2 = bI tr') (h : CI g mp cf tu tr r M) : CI g mp cf tu' tr' r' M' := by
  obtain ⟨p, p2, g1, g2, g3, g4, g5, h6', h7, h8, h9, ha, hb, hc⟩ := h
  exact ⟨o, o2, h1, h2, h3, h4, h5, GCl_eq h6 (fun x j hx => hf x j (by omega) (by omega)) h6', CMp_eq (fun j => hf _ _ (by omega) (by omega)) h7, (hf _ _ (by omega) (by omega)).trans h8, hR, ht, htr, fun z => CCp_eq h6 (fun x j hx => hf x j (by omega) (by omega)) (hc z)⟩
theorem F72 (hκ : Rd κ) (hg : GOk g) (hI : CI g mp cf tu tr r M) {qq : Nat → Pq} (hq : cf = true → ∀ x, x < gN g → (s1 g).2.2.2.1 x = false → PN M ((s1 g).1 x) ((s1 g).2.2.1 x) (LtO mp ((s1 g).2.2.2.2 x)) (19 + 18 * x) (qq x))
    (K1 : cf = false → Q (.inr 1, M, kT κ))
    (K2 : cf = true → rnG g qq r.2.1 = none → ∀ M', (∀ x j, 134 ≤ x ∨ (19 ≤ x ∧ x ≤ 112) → M' x j = M x j) → CI g mp cf tu tr r M' → Q (.inr 3, M', kT κ))
    (K3 : cf = true → ∀ c tu' tr' r', rnG g qq r.2.1 = some (c, tu', tr', r') → tu' ≤ 100 → r'.2.2.1 ≤ 1000 → ∀ M', (∀ x j, 134 ≤ x ∨ (19 ≤ x ∧ x ≤ 112) → M' x j = M x j) → CI g mp cf tu' tr' r' M' → Q (.inl (some (.int (nI c))), M', κ)) : RT 72 (0, entL 72 [.ref 0], [], M, κ) Q := by
  have hI0 := hI
  obtain ⟨o, o2, h1, h2, h3, h4, h5, h6', h7, h8, h9, ha, hb, hc⟩ := hI
  cases cf with
  | false => exact S72_0 hκ h8 (fun z => by cases z) (fun _ => K1 rfl)
  | true =>
    obtain ⟨c0', c1', c2', c3'⟩ := hc rfl
    have hs := SIv1 hg c1'
    have o1r := oc_rng h1
    have o2r := oc_rng h2
    refine f72 (qq := qq) (mp := mp) hκ h2 h1 (fun z => h3 z.symm) h8 hg.1 c0' hs (fun _ => ⟨h5, c2', hq rfl⟩) h5 h4 h9.2.2.2 (fun z => by cases z) (fun _ hn M' hf => ?_) (fun _ c tu' tr' r' hn _ M' hf hR ht htr => ?_)
    · have hd : ∀ x j, o ≤ x ∧ x ≤ o + 3 → M' x j = M x j := fun x j hx => hf x j (by rcases h1 with e | e <;> rcases h2 with e' | e' <;> omega)
      exact K2 rfl hn M' (fun x j hx => hf x j (by omega)) (CI_out hg.1 h1 h2 h3 ((hf _ _ (by omega)).trans h4) ((hf _ _ (by omega)).trans h5) (fun x j _ hx => hf x j (by omega)) (RC_eq hd h9) ((hd _ _ (by omega)).trans ha) ((hd _ _ (by omega)).trans hb) hI0)
    · have hr := rnS_rng (qq := qq) hs (fun x hx hg' => ⟨M, _, _, _, hq rfl x hx hg'⟩) 100 0 0 0 _ (by omega) hs.2.2 (Nat.zero_le _) c tu' tr' r' hn
      have hst : ∀ x j, ¬ x = 0 → stM (stM M' 0 9 (nI o)) 0 8 (nI o2) x j = M' x j := fun x j hx => (stM_o hx).trans (stM_o hx)
      refine K3 rfl c tu' tr' r' hn hr.2.2.1 hr.2.2.2 _ (fun x j hx => (hst x j (by omega)).trans (hf x j (by omega))) (CI_out hg.1 h2 h1 (fun z => h3 z.symm) stM_s ((stM_j (by decide)).trans stM_s) (fun x j e1 e2 => ?_) (RC_eq (fun x j hx => hst x j (by omega)) hR) ((hst _ _ (by omega)).trans ht) ((hst _ _ (by omega)).trans htr) hI0)
      by_cases ex : x = 0
      · rw [ex]
        exact (stM_j (fun z => e1 ⟨ex, .inl z⟩)).trans ((stM_j (fun z => e1 ⟨ex, .inr z⟩)).trans (hf _ _ (by omega)))
      · exact (hst x j ex).trans (hf x j (by omega))
theorem MI_out {r' : Rs} {tu' : Nat} {tr' : Bool} (h6 : gN g ≤ 6) (hf : frV M M') (hE : MEn M' tu' tr' r') (h : MI g mp cf tu tr r M) : MI g mp cf tu' tr' r' M' := by
  obtain ⟨h1, h2, h3, h4, h5⟩ := h
  exact ⟨GMd_eq h6 (hf _ _ (by omega) (by omega)) (fun x j hx => hf x j (by omega) (by omega)) h1, MMp_eq (fun j hj => hf _ _ (by omega) (by omega)) h2, (hf _ _ (by omega) (by omega)).trans h3, hE, fun z => MCp_eq h6 (hf _ _ (by omega) (by omega)) (fun x j hx => hf x j (by omega) (by omega)) (h5 z)⟩
theorem F142 (hκ : Rd κ) (hg : GOk g) (hm : MpOk mp) (hI : MI g mp cf tu tr r M) (hC : cf = true → ¬ gN g = 0 ∧ miss g = false) {qq : Nat → Pq} (hq : cf = true → ∀ x, x < gN g → (s1 g).2.2.2.1 x = false → PN M ((s1 g).1 x) ((s1 g).2.2.1 x) (LtO mp ((s1 g).2.2.2.2 x)) (19 + 18 * x) (qq x))
    (K1 : cf = false → ∀ M', (∀ x j, x < 134 → M' x j = M x j) → M' 134 0 = nI 1 → MI g mp cf tu tr r M' → Q (.inl (some (.int 0)), M', κ))
    (K2 : cf = true → rnG g qq r.2.1 = none → ∀ M', (∀ x j, x < 134 → M' x j = M x j) → M' 134 0 = nI 2 → MI g mp cf tu tr r M' → Q (.inl (some (.int 0)), M', κ))
    (K3 : cf = true → ∀ c tu' tr' r', rnG g qq r.2.1 = some (c, tu', tr', r') → ∀ M', (∀ x j, x < 134 → M' x j = M x j) → M' 134 0 = nI 0 → MI g mp cf tu' tr' r' M' → Q (.inl (some (.int (nI c))), M', κ)) : RT 142 (0, entL 142 [.ref 134], [], M, κ) Q := by
  have h6 := hg.1
  have hI0 := hI
  obtain ⟨h1, h2, h3, h4, h5⟩ := hI
  cases cf with
  | false => exact S142_0 hκ h3 (fun _ => K1 rfl _ (fun x j hx => stM_o (by omega)) stM_s (MI_th h6 hI0)) (fun z => absurd (by decide) z)
  | true =>
    obtain ⟨c0', c1'⟩ := hC rfl
    have hs := SIv1 hg c1'
    obtain ⟨m1, m2, m3⟩ := h5 rfl
    refine f142 (qq := qq) (mp := mp) hκ hm h3 h6 c0' hs (fun _ => ⟨m2, h2, fun x hx hg' => ⟨hq rfl x hx hg', m3 x hx hg'⟩⟩) h4.2.2.2.1 (fun z => by cases z) (fun _ hn M' hf hz => ?_) (fun _ c tu' tr' r' hn M' hf hE hz => ?_)
    · exact K2 rfl hn M' (fun x j hx => hf x j (by omega) (by omega)) hz (MI_out h6 (frV_X hf) (MEn_eq (fun j hj hj4 => hf _ _ (by omega) (by omega)) (fun x j hx => hf x j (by omega) (by omega)) h4) hI0)
    · exact K3 rfl c tu' tr' r' hn M' (fun x j hx => hf x j (by omega) (by omega)) hz (MI_out h6 hf hE hI0)
variable {wh ix vv : Int32}
/-- result -/
def anR (wh : Int32) (oc : Nat) (tr : Bool) (tu : Nat) : Int32 := if wh = 0 then nI oc else if wh = 1 then bI tr else nI tu
theorem inR2 {x : Int32} : inR 0 x 2 = true ↔ x = 0 ∨ x = 1 ∨ x = 2 := by
  rw [inR_iff, c0, show (2 : Int32).toInt = 2 by decide]
  refine ⟨fun h => ?_, fun h => ?_⟩
  · have : x.toInt = 0 ∨ x.toInt = 1 ∨ x.toInt = 2 := by omega
    rcases this with e | e | e
    · exact .inl (Int32.toInt_inj.mp (e.trans c0.symm))
    · exact .inr (.inl (Int32.toInt_inj.mp (e.trans t1.symm)))
    · exact .inr (.inr (Int32.toInt_inj.mp (e.trans (show (2 : Int32).toInt = 2 by decide).symm)))
  · rcases h with e | e | e <;> rw [e] <;> decide
theorem F73 (hκ : Rd κ) (hI : CI g mp cf tu tr r M) (K0 : inR 0 wh 2 = false → Q (.inr 2, M, kT κ)) (K1 : inR 0 wh 2 = true → Q (.inl (some (.int (anR wh r.2.2.1 tr tu))), M, κ)) : RT 73 (0, entL 73 [.ref 0, .int wh], [], M, κ) Q := by
  obtain ⟨o, o2, h1, h2, h3, h4, h5, h6', h7, h8, h9, ha, hb, hc⟩ := hI
  have eb : bI (if tr = true then true else false) = bI tr := by cases tr <;> rfl
  refine S73_0 hκ h1 h4 h9.1 ha hb (fun a => ?_) (fun a b => ?_) (fun a b c => ?_) (fun a b c => K0 ?_)
  · have := K1 (inR2.mpr (.inl a))
    unfold anR at this
    rw [if_pos a] at this
    exact this
  · have := K1 (inR2.mpr (.inr (.inl b)))
    unfold anR at this
    rw [if_neg a, if_pos b] at this
    rw [eb]
    exact this
  · have := K1 (inR2.mpr (.inr (.inr c)))
    unfold anR at this
    rw [if_neg a, if_neg b] at this
    exact this
  · cases q : inR 0 wh 2 with
    | false => rfl
    | true => exact (inR2.mp q).elim (fun z => absurd z a) (fun z => z.elim (fun z => absurd z b) (fun z => absurd z c))
theorem F144 (hκ : Rd κ) (h6 : gN g ≤ 6) (hI : MI g mp cf tu tr r M) (K0 : inR 0 wh 2 = false → ∀ M', (∀ x j, x < 134 → M' x j = M x j) → M' 134 0 = nI 1 → MI g mp cf tu tr r M' → Q (.inl (some (.int 0)), M', κ)) (K1 : inR 0 wh 2 = true → ∀ M', (∀ x j, x < 134 → M' x j = M x j) → M' 134 0 = nI 0 → MI g mp cf tu tr r M' → Q (.inl (some (.int (anR wh r.2.2.1 tr tu))), M', κ)) : RT 144 (0, entL 144 [.ref 134, .int wh], [], M, κ) Q := by
  have hE := hI.2.2.2.1
  refine S144_0 hκ hE.1 hE.2.1 hE.2.2.1 ?_
  have eb : (if (outR wh 0 2) = true then true else false) = !inR 0 wh 2 := by
    rw [outR_inR]
    cases inR 0 wh 2 <;> rfl
  rw [eb]
  cases q : inR 0 wh 2 with
  | false => exact K0 q _ (fun x j hx => stM_o (by omega)) stM_s (MI_th h6 hI)
  | true => exact K1 q _ (fun x j hx => stM_o (by omega)) stM_s (MI_th h6 hI)
/-- output -/
def okO (ix : Int32) (oc : Nat) : Bool := inR 0 ix 63 && decide (ix < nI oc)
theorem F74 (hκ : Rd κ) (ho : r.2.2.1 ≤ 1000) (hI : CI g mp cf tu tr r M) (K0 : okO ix r.2.2.1 = false → Q (.inr 2, M, kT κ)) (K1 : okO ix r.2.2.1 = true → Q (.inl (some (.int (r.2.2.2 ix.toNatClampNeg))), M, κ)) : RT 74 (0, entL 74 [.ref 0, .int ix], [], M, κ) Q := by
  obtain ⟨o, o2, h1, h2, h3, h4, h5, h6', h7, h8, h9, ha, hb, hc⟩ := hI
  have e0 : ix < 0 ↔ ix.toInt < 0 := by rw [ltI, c0]
  have e1 : ix < nI r.2.2.1 ↔ ix.toInt < r.2.2.1 := by rw [ltI, nI_toInt (by omega)]
  have e2 : ix < 64 ↔ ix.toInt < 64 := by rw [ltI, show (64 : Int32).toInt = 64 by decide]
  have eo : okO ix r.2.2.1 = true ↔ (0 ≤ ix.toInt ∧ ix.toInt ≤ 63) ∧ ix.toInt < r.2.2.1 := by
    unfold okO
    rw [Bool.and_eq_true, inR_iff, decide_eq_true_iff, e1, c0, show (63 : Int32).toInt = 63 by decide]
  have hcl : 0 ≤ ix.toInt → ix.toNatClampNeg = ix.toInt.toNat := fun h => rfl
  refine S74_0 hκ h1 h4 h9.1 ha hb ho (fun a b c => ?_) (fun a => K0 ?_) (fun a b c => ?_)
  · rw [e0] at a
    rw [e2] at c
    exact fun z => z.elim (fun y => by rw [e0] at y; omega) (fun y => by rw [hcl (by omega)] at y; omega)
  · cases q : okO ix r.2.2.1 with
    | false => rfl
    | true =>
      have := eo.mp q
      rw [e0, e1, e2] at a
      omega
  · rw [e0] at a
    rw [e1] at b
    rw [e2] at c
    rw [h9.2.1 _ (by rw [hcl (by omega)]; omega) (by rw [hcl (by omega)]; omega)]
    exact K1 (eo.mpr (by omega))
theorem F145 (hκ : Rd κ) (h6 : gN g ≤ 6) (ho : r.2.2.1 ≤ 1000) (hI : MI g mp cf tu tr r M) (K0 : okO ix r.2.2.1 = false → ∀ M', (∀ x j, x < 134 → M' x j = M x j) → M' 134 0 = nI 1 → MI g mp cf tu tr r M' → Q (.inl (some (.int 0)), M', κ)) (K1 : okO ix r.2.2.1 = true → ∀ M', (∀ x j, x < 134 → M' x j = M x j) → M' 134 0 = nI 0 → MI g mp cf tu tr r M' → Q (.inl (some (.int (r.2.2.2 ix.toNatClampNeg))), M', κ)) : RT 145 (0, entL 145 [.ref 134, .int ix], [], M, κ) Q := by
  have hE := hI.2.2.2.1
  have eb : (if (outR ix 0 63) = true then true else (if ix < (nI r.2.2.1) then false else true)) = !okO ix r.2.2.1 := by
    unfold okO
    rw [outR_inR]
    by_cases q : ix < nI r.2.2.1
    · rw [if_pos q, decide_eq_true q]
      cases inR 0 ix 63 <;> rfl
    · rw [if_neg q, decide_eq_false q]
      cases inR 0 ix 63 <;> rfl
  have e1 : ix < nI r.2.2.1 ↔ ix.toInt < r.2.2.1 := by rw [ltI, nI_toInt (by omega)]
  have eo : okO ix r.2.2.1 = true → (0 ≤ ix.toInt ∧ ix.toInt ≤ 63) ∧ ix.toInt < r.2.2.1 := by
    unfold okO
    rw [Bool.and_eq_true, inR_iff, decide_eq_true_iff, e1, c0, show (63 : Int32).toInt = 63 by decide]
    exact fun z => z
  have hcl : ix.toNatClampNeg = ix.toInt.toNat := rfl
  refine S145_0 hκ hE.1 hE.2.1 hE.2.2.1 ho (fun a => ?_) ?_
  · rw [eb] at a
    cases q : okO ix r.2.2.1 with
    | false => rw [q] at a; exact absurd (by decide) a
    | true =>
      have := eo q
      exact fun z => z.elim (fun y => by rw [ltI, c0] at y; omega) (fun y => by rw [hcl] at y; omega)
  · rw [eb]
    cases q : okO ix r.2.2.1 with
    | false => exact K0 q _ (fun x j hx => stM_o (by omega)) stM_s (MI_th h6 hI)
    | true =>
      have h := eo q
      rw [if_neg (by decide), hE.2.2.2.2.1 _ (by rw [hcl]; omega) (by rw [hcl]; omega)]
      exact K1 q _ (fun x j hx => stM_o (by omega)) stM_s (MI_th h6 hI)
/-- variable -/
theorem F75 (hκ : Rd κ) (hI : CI g mp cf tu tr r M) (K0 : inR 0 vv 11 = false → Q (.inr 2, M, kT κ)) (K1 : inR 0 vv 11 = true → Q (.inl (some (.int (if tr = true then 0 else r.1 vv.toNatClampNeg))), M, κ)) : RT 75 (0, entL 75 [.ref 0, .int vv], [], M, κ) Q := by
  obtain ⟨o, o2, h1, h2, h3, h4, h5, h6', h7, h8, h9, ha, hb, hc⟩ := hI
  have hv : inR 0 vv 11 = true → vp_in vv 12 ∧ vv.toNatClampNeg < 12 := fun h => v12 (inR_iff.mp h)
  refine S75_0 hκ h1 h4 h9.1 ha hb (fun a _ => (hv a).1) (fun a => ?_) (fun a => K0 (by cases q : inR 0 vv 11 with | false => rfl | true => exact absurd q a))
  rw [h9.2.2.1 _ (hv a).2]
  exact K1 a
theorem F146 (hκ : Rd κ) (h6 : gN g ≤ 6) (hI : MI g mp cf tu tr r M) (K0 : inR 0 vv 11 = false → ∀ M', (∀ x j, x < 134 → M' x j = M x j) → M' 134 0 = nI 1 → MI g mp cf tu tr r M' → Q (.inl (some (.int 0)), M', κ)) (K1 : inR 0 vv 11 = true → ∀ M', (∀ x j, x < 134 → M' x j = M x j) → M' 134 0 = nI 0 → MI g mp cf tu tr r M' → Q (.inl (some (.int (if tr = true then 0 else r.1 vv.toNatClampNeg))), M', κ)) : RT 146 (0, entL 146 [.ref 134, .int vv], [], M, κ) Q := by
  have hE := hI.2.2.2.1
  have hv : inR 0 vv 11 = true → vp_in vv 12 ∧ vv.toNatClampNeg < 12 := fun h => v12 (inR_iff.mp h)
  have eb : (if (outR vv 0 11) = true then true else false) = !inR 0 vv 11 := by
    rw [outR_inR]
    cases inR 0 vv 11 <;> rfl
  refine S146_0 hκ hE.1 hE.2.1 hE.2.2.1 (fun a => ?_) ?_
  · rw [eb] at a
    cases q : inR 0 vv 11 with
    | false => rw [q] at a; exact absurd (by decide) a
    | true => exact (hv q).1
  · rw [eb]
    cases q : inR 0 vv 11 with
    | false => exact K0 q _ (fun x j hx => stM_o (by omega)) stM_s (MI_th h6 hI)
    | true =>
      rw [if_neg (by decide), hE.2.2.2.2.2 _ (hv q).2]
      exact K1 q _ (fun x j hx => stM_o (by omega)) stM_s (MI_th h6 hI)
end AS
end P_55_ask
