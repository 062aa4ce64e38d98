/-! RUN: a run of the model -/
section P_51_runm
theorem i_142_0 : ins 142 0 = some (.aload_n 0, 1, 0, 0, 0, 0) := rfl
theorem i_142_1 : ins 142 1 = some (.aload_n 0, 2, 0, 0, 0, 0) := rfl
theorem i_142_2 : ins 142 2 = some (.getfield 170, 5, 7, 19, 0, 0) := rfl
theorem i_142_5 : ins 142 5 = some (.ifCond .eq 7, 8, 12, 0, 0, 0) := rfl
theorem i_142_8 : ins 142 8 = some (.iconst 0, 9, 0, 0, 0, 0) := rfl
theorem i_142_9 : ins 142 9 = some (.goto 4, 12, 13, 0, 0, 0) := rfl
theorem i_142_12 : ins 142 12 = some (.iconst 1, 13, 0, 0, 0, 1) := rfl
theorem i_142_13 : ins 142 13 = some (.putfield 159, 16, 7, 0, 0, 0) := rfl
theorem i_142_16 : ins 142 16 = some (.aload_n 0, 17, 0, 0, 0, 0) := rfl
theorem i_142_17 : ins 142 17 = some (.getfield 159, 20, 7, 0, 0, 0) := rfl
theorem i_142_20 : ins 142 20 = some (.ifCond .le 5, 23, 25, 0, 0, 0) := rfl
theorem i_142_23 : ins 142 23 = some (.iconst 0, 24, 0, 0, 0, 0) := rfl
theorem i_142_24 : ins 142 24 = some (.ireturn, 25, 0, 0, 0, 0) := rfl
theorem i_142_25 : ins 142 25 = some (.iconst 0, 26, 0, 0, 0, 0) := rfl
theorem i_142_26 : ins 142 26 = some (.istore_n 1, 27, 1, 0, 0, 0) := rfl
theorem S142_0 {Q : Ou → Prop} {M : Mem} {κ : Kp} (hκ : Rd κ) {cf : Bool} (hcp : M 134 19 = bI cf) 
    (k1 : 0 < (bI (if cf = true then false else true)) → Q (.inl (some (.int 0)), (stM M 134 0 (bI (if cf = true then false else true))), κ))
    (k2 : ¬ (0 < (bI (if cf = true then false else true))) → RT 142 (27, [.ref 134, .int (nI 0), UU, UU, UU, UU, UU, UU], [], (stM M 134 0 (bI (if cf = true then false else true))), κ) Q)
    : RT 142 (0, [.ref 134, UU, UU, UU, UU, UU, UU, UU], [], M, κ) Q := by
  refine w_load i_142_0 rfl rfl ?_
  refine w_load i_142_1 rfl rfl ?_
  refine w_getI (v := (bI cf)) i_142_2 hκ (⟨rfl, by decide⟩ : isOb 134 7) rfl (hcp) ?_
  have K1 : RT 142 (13, [.ref 134, UU, UU, UU, UU, UU, UU, UU], [.int (bI (if cf = true then false else true)), .ref 134], M, κ) Q := by
    refine w_putI i_142_13 hκ (⟨rfl, by decide⟩ : isOb 134 7) rfl (fun c => absurd c (by decide)) ?_
    refine w_load i_142_16 rfl rfl ?_
    refine w_getI (v := (bI (if cf = true then false else true))) i_142_17 hκ (⟨rfl, by decide⟩ : isOb 134 7) rfl (stM_s) ?_
    refine w_if0n (0 < (bI (if cf = true then false else true))) i_142_20 cI0_le ?_ ?_
    · intro h2
      refine w_push i_142_23 rfl ?_
      exact w_iret i_142_24 (.inl rfl) (k1 h2)
    · intro h3
      refine w_push i_142_25 rfl ?_
      refine w_store (l1 := [.ref 134, .int 0, UU, UU, UU, UU, UU, UU]) i_142_26 rfl (Nat.le_of_ble_eq_true rfl) rfl ?_
      exact (k2 h3)
  refine w_if0n (cf = true) i_142_5 cB_eq ?_ ?_
  · intro h4
    refine w_push i_142_8 rfl ?_
    refine w_goto i_142_9 ?_
    exact (by first | exact (K1) | (have K9 := K1; simp only [↓if_pos h4] at K9 ⊢; exact (K9)))
  · intro h5
    refine w_push i_142_12 rfl ?_
    exact (by first | exact (K1) | (have K9 := K1; simp only [↓if_neg h5] at K9 ⊢; exact (K9)))
theorem i_142_27 : ins 142 27 = some (.iload_n 1, 28, 1, 0, 0, 0) := rfl
theorem i_142_28 : ins 142 28 = some (.bipush 64, 30, 0, 0, 0, 64) := rfl
theorem i_142_30 : ins 142 30 = some (.if_icmp .ge 21, 33, 51, 0, 0, 0) := rfl
theorem i_142_33 : ins 142 33 = some (.aload_n 0, 34, 0, 0, 0, 0) := rfl
theorem i_142_34 : ins 142 34 = some (.getfield 144, 37, 7, 48, 0, 0) := rfl
theorem i_142_37 : ins 142 37 = some (.iload_n 1, 38, 1, 0, 0, 0) := rfl
theorem i_142_38 : ins 142 38 = some (.aload_n 0, 39, 0, 0, 0, 0) := rfl
theorem i_142_39 : ins 142 39 = some (.getfield 141, 42, 7, 47, 0, 0) := rfl
theorem i_142_42 : ins 142 42 = some (.iload_n 1, 43, 1, 0, 0, 0) := rfl
theorem i_142_43 : ins 142 43 = some (.iaload, 44, 0, 0, 0, 0) := rfl
theorem i_142_44 : ins 142 44 = some (.iastore, 45, 0, 0, 0, 0) := rfl
theorem i_142_45 : ins 142 45 = some (.iinc 1 1, 48, 1, 0, 0, 1) := rfl
theorem i_142_48 : ins 142 48 = some (.goto (-21), 51, 27, 0, 0, 0) := rfl
theorem i_142_51 : ins 142 51 = some (.iconst 0, 52, 0, 0, 0, 0) := rfl
theorem i_142_52 : ins 142 52 = some (.istore_n 1, 53, 1, 0, 0, 0) := rfl
theorem S142_27 {Q : Ou → Prop} {M : Mem} {κ : Kp} (hκ : Rd κ) {k : Nat} (hk : k ≤ 64) 
    (k1 : k < 64 → RT 142 (27, [.ref 134, .int (nI (k + 1)), UU, UU, UU, UU, UU, UU], [], (stM M 173 k (M 172 k)), κ) Q)
    (k2 : ¬ (k < 64) → RT 142 (53, [.ref 134, .int (nI 0), UU, UU, UU, UU, UU, UU], [], M, κ) Q)
    : RT 142 (27, [.ref 134, .int (nI k), UU, UU, UU, UU, UU, UU], [], M, κ) Q := by
  refine w_load i_142_27 rfl rfl ?_
  refine w_push i_142_28 rfl ?_
  refine w_if2n (k < 64) i_142_30 (cN_ge (a := k) (b := 64) (by omega) (by omega)) ?_ ?_
  · intro h1
    refine w_load i_142_33 rfl rfl ?_
    refine w_getR 173 i_142_34 hκ (⟨rfl, by decide⟩ : isOb 134 7) rfl rfl ?_
    refine w_load i_142_37 rfl rfl ?_
    refine w_load i_142_38 rfl rfl ?_
    refine w_getR 172 i_142_39 hκ (⟨rfl, by decide⟩ : isOb 134 7) rfl rfl ?_
    refine w_load i_142_42 rfl rfl ?_
    refine w_ialdN (e := k) (v := (M 172 k)) i_142_43 hκ (⟨rfl, rfl, by decide⟩ : isAr 172 64) (by omega) (by decide) (rfl) ?_
    refine w_iastN (e := k) i_142_44 hκ (⟨rfl, rfl, by decide⟩ : isAr 173 64) (by omega) (by decide) ?_
    refine w_iincN (n := k) (l1 := [.ref 134, .int (nI (k + 1)), UU, UU, UU, UU, UU, UU]) 1 i_142_45 rfl rfl ?_
    refine w_goto i_142_48 ?_
    exact (k1 h1)
  · intro h2
    refine w_push i_142_51 rfl ?_
    refine w_store (l1 := [.ref 134, .int 0, UU, UU, UU, UU, UU, UU]) i_142_52 rfl (Nat.le_of_ble_eq_true rfl) rfl ?_
    exact (k2 h2)
theorem i_142_53 : ins 142 53 = some (.iload_n 1, 54, 1, 0, 0, 0) := rfl
theorem i_142_54 : ins 142 54 = some (.bipush 12, 56, 0, 0, 0, 12) := rfl
theorem i_142_56 : ins 142 56 = some (.if_icmp .ge 16, 59, 72, 0, 0, 0) := rfl
theorem i_142_59 : ins 142 59 = some (.aload_n 0, 60, 0, 0, 0, 0) := rfl
theorem i_142_60 : ins 142 60 = some (.getfield 147, 63, 7, 49, 0, 0) := rfl
theorem i_142_63 : ins 142 63 = some (.iload_n 1, 64, 1, 0, 0, 0) := rfl
theorem i_142_64 : ins 142 64 = some (.iconst 0, 65, 0, 0, 0, 0) := rfl
theorem i_142_65 : ins 142 65 = some (.iastore, 66, 0, 0, 0, 0) := rfl
theorem i_142_66 : ins 142 66 = some (.iinc 1 1, 69, 1, 0, 0, 1) := rfl
theorem i_142_69 : ins 142 69 = some (.goto (-16), 72, 53, 0, 0, 0) := rfl
theorem i_142_72 : ins 142 72 = some (.aload_n 0, 73, 0, 0, 0, 0) := rfl
theorem i_142_73 : ins 142 73 = some (.iconst 0, 74, 0, 0, 0, 0) := rfl
theorem i_142_74 : ins 142 74 = some (.putfield 297, 77, 7, 54, 0, 0) := rfl
theorem i_142_77 : ins 142 77 = some (.iconst 0, 78, 0, 0, 0, 0) := rfl
theorem i_142_78 : ins 142 78 = some (.istore_n 1, 79, 1, 0, 0, 0) := rfl
theorem i_142_79 : ins 142 79 = some (.iconst 0, 80, 0, 0, 0, 0) := rfl
theorem i_142_80 : ins 142 80 = some (.istore_n 2, 81, 2, 0, 0, 0) := rfl
theorem i_142_81 : ins 142 81 = some (.iconst 0, 82, 0, 0, 0, 0) := rfl
theorem i_142_82 : ins 142 82 = some (.istore_n 3, 83, 3, 0, 0, 0) := rfl
theorem i_142_83 : ins 142 83 = some (.iconst (-1), 84, 0, 0, 0, (-1)) := rfl
theorem i_142_84 : ins 142 84 = some (.istore 4, 86, 4, 0, 0, 0) := rfl
theorem S142_53 {Q : Ou → Prop} {M : Mem} {κ : Kp} (hκ : Rd κ) {k : Nat} (hk : k ≤ 12) 
    (k1 : k < 12 → RT 142 (53, [.ref 134, .int (nI (k + 1)), UU, UU, UU, UU, UU, UU], [], (stM M 174 k 0), κ) Q)
    (k2 : ¬ (k < 12) → RT 142 (86, [.ref 134, .int (nI 0), .int (nI 0), .int (nI 0), .int (-1), UU, UU, UU], [], (stM M 134 54 0), κ) Q)
    : RT 142 (53, [.ref 134, .int (nI k), UU, UU, UU, UU, UU, UU], [], M, κ) Q := by
  refine w_load i_142_53 rfl rfl ?_
  refine w_push i_142_54 rfl ?_
  refine w_if2n (k < 12) i_142_56 (cN_ge (a := k) (b := 12) (by omega) (by omega)) ?_ ?_
  · intro h1
    refine w_load i_142_59 rfl rfl ?_
    refine w_getR 174 i_142_60 hκ (⟨rfl, by decide⟩ : isOb 134 7) rfl rfl ?_
    refine w_load i_142_63 rfl rfl ?_
    refine w_push i_142_64 rfl ?_
    refine w_iastN (e := k) i_142_65 hκ (⟨rfl, rfl, by decide⟩ : isAr 174 12) (by omega) (by decide) ?_
    refine w_iincN (n := k) (l1 := [.ref 134, .int (nI (k + 1)), UU, UU, UU, UU, UU, UU]) 1 i_142_66 rfl rfl ?_
    refine w_goto i_142_69 ?_
    exact (k1 h1)
  · intro h2
    refine w_load i_142_72 rfl rfl ?_
    refine w_push i_142_73 rfl ?_
    refine w_putI i_142_74 hκ (⟨rfl, by decide⟩ : isOb 134 7) rfl (fun c => absurd c (by decide)) ?_
    refine w_push i_142_77 rfl ?_
    refine w_store (l1 := [.ref 134, .int 0, UU, UU, UU, UU, UU, UU]) i_142_78 rfl (Nat.le_of_ble_eq_true rfl) rfl ?_
    refine w_push i_142_79 rfl ?_
    refine w_store (l1 := [.ref 134, .int 0, .int 0, UU, UU, UU, UU, UU]) i_142_80 rfl (Nat.le_of_ble_eq_true rfl) rfl ?_
    refine w_push i_142_81 rfl ?_
    refine w_store (l1 := [.ref 134, .int 0, .int 0, .int 0, UU, UU, UU, UU]) i_142_82 rfl (Nat.le_of_ble_eq_true rfl) rfl ?_
    refine w_push i_142_83 rfl ?_
    refine w_store (l1 := [.ref 134, .int 0, .int 0, .int 0, .int (-1), UU, UU, UU]) i_142_84 rfl (Nat.le_of_ble_eq_true rfl) rfl ?_
    exact (k2 h2)
theorem i_142_86 : ins 142 86 = some (.iload_n 3, 87, 3, 0, 0, 0) := rfl
theorem i_142_87 : ins 142 87 = some (.ifCond .lt 263, 90, 350, 0, 0, 0) := rfl
theorem i_142_90 : ins 142 90 = some (.iload 4, 92, 4, 0, 0, 0) := rfl
theorem i_142_92 : ins 142 92 = some (.ifCond .ge 258, 95, 350, 0, 0, 0) := rfl
theorem i_142_95 : ins 142 95 = some (.aload_n 0, 96, 0, 0, 0, 0) := rfl
theorem i_142_96 : ins 142 96 = some (.getfield 66, 99, 7, 22, 0, 0) := rfl
theorem i_142_99 : ins 142 99 = some (.iload_n 3, 100, 3, 0, 0, 0) := rfl
theorem i_142_100 : ins 142 100 = some (.iaload, 101, 0, 0, 0, 0) := rfl
theorem i_142_101 : ins 142 101 = some (.iconst 3, 102, 0, 0, 0, 3) := rfl
theorem i_142_102 : ins 142 102 = some (.if_icmp .ne 17, 105, 119, 0, 0, 0) := rfl
theorem i_142_105 : ins 142 105 = some (.aload_n 0, 106, 0, 0, 0, 0) := rfl
theorem i_142_106 : ins 142 106 = some (.getfield 147, 109, 7, 49, 0, 0) := rfl
theorem i_142_109 : ins 142 109 = some (.aload_n 0, 110, 0, 0, 0, 0) := rfl
theorem i_142_110 : ins 142 110 = some (.getfield 69, 113, 7, 23, 0, 0) := rfl
theorem i_142_113 : ins 142 113 = some (.iload_n 3, 114, 3, 0, 0, 0) := rfl
theorem i_142_114 : ins 142 114 = some (.iaload, 115, 0, 0, 0, 0) := rfl
theorem i_142_115 : ins 142 115 = some (.iaload, 116, 0, 0, 0, 0) := rfl
theorem i_142_116 : ins 142 116 = some (.goto 4, 119, 120, 0, 0, 0) := rfl
theorem i_142_119 : ins 142 119 = some (.iconst 1, 120, 0, 0, 0, 1) := rfl
theorem i_142_120 : ins 142 120 = some (.istore 5, 122, 5, 0, 0, 0) := rfl
theorem i_142_350 : ins 142 350 = some (.aload_n 0, 351, 0, 0, 0, 0) := rfl
theorem i_142_351 : ins 142 351 = some (.iload_n 2, 352, 2, 0, 0, 0) := rfl
theorem i_142_352 : ins 142 352 = some (.iload 4, 354, 4, 0, 0, 0) := rfl
theorem i_142_354 : ins 142 354 = some (.ifCond .lt 7, 357, 361, 0, 0, 0) := rfl
theorem i_142_361 : ins 142 361 = some (.iconst 0, 362, 0, 0, 0, 0) := rfl
theorem i_142_362 : ins 142 362 = some (.invokevirtual 309, 365, 143, 0, 3, 0) := rfl
theorem S142_86 {Q : Ou → Prop} {M : Mem} {κ : Kp} (hκ : Rd κ) {x come : Nat} {e v : Int32} (hx : x < 6) (hh0 : M 147 x = e) (hh1 : M 148 x = v) {cy : Int32}
    (o1 : ¬ (x < 0) → e = 3 → vp_in v 12)
    (k1 : x < 0 → RT 143 (0, entL 143 [.ref 134, .int (nI come), .int 0], [], M, κ) (fun o => ∃ v M1 κ1, o = (.inl v, M1, κ1) ∧ RT 142 (365, [.ref 134, .int cy, .int (nI come), .int (nI x), .int (-1), UU, UU, UU], v.toList ++ [], M1, κ1) Q))
    (k2 : ¬ (x < 0) → RT 142 (122, [.ref 134, .int cy, .int (nI come), .int (nI x), .int (-1), .int (if e = 3 then (M 174 v.toNatClampNeg) else 1), UU, UU], [], M, κ) Q)
    : RT 142 (86, [.ref 134, .int cy, .int (nI come), .int (nI x), .int (-1), UU, UU, UU], [], M, κ) Q := by
  refine w_load i_142_86 rfl rfl ?_
  refine w_if0 (x < 0) i_142_87 (cZ_lt (a := x) (by omega) (by decide)) ?_ ?_
  · intro h1
    refine w_load i_142_350 rfl rfl ?_
    refine w_load i_142_351 rfl rfl ?_
    refine w_load i_142_352 rfl rfl ?_
    refine w_if0 (((-1) : Int32) < 0) i_142_354 cI0_lt ?_ ?_
    · intro h2
      refine w_push i_142_361 rfl ?_
      exact w_callVI (i := _) i_142_362 ⟨by decide, by decide, by decide, rfl⟩ hκ (⟨rfl, by decide⟩ : isOb 134 7) (av := [.int (nI come), .int 0]) (rest := []) rfl rfl (Nat.le_of_ble_eq_true rfl) (k1 h1)
    · intro h3
      exact absurd (by decide) h3
  · intro h4
    refine w_load i_142_90 rfl rfl ?_
    refine w_if0n (((-1) : Int32) < 0) i_142_92 cI0_ge ?_ ?_
    · intro h5
      refine w_load i_142_95 rfl rfl ?_
      refine w_getR 147 i_142_96 hκ (⟨rfl, by decide⟩ : isOb 134 7) rfl rfl ?_
      refine w_load i_142_99 rfl rfl ?_
      refine w_ialdN (e := x) (v := e) i_142_100 hκ (⟨rfl, rfl, by decide⟩ : isAr 147 6) (by omega) (by decide) (hh0) ?_
      refine w_push i_142_101 rfl ?_
      have K6 : RT 142 (120, [.ref 134, .int cy, .int (nI come), .int (nI x), .int (-1), UU, UU, UU], [.int (if e = 3 then (M 174 v.toNatClampNeg) else 1)], M, κ) Q := by
        refine w_store (l1 := [.ref 134, .int cy, .int (nI come), .int (nI x), .int (-1), .int (if e = 3 then (M 174 v.toNatClampNeg) else 1), UU, UU]) i_142_120 rfl (Nat.le_of_ble_eq_true rfl) rfl ?_
        exact (k2 h4)
      refine w_if2n (e = 3) i_142_102 cI_ne ?_ ?_
      · intro h7
        refine w_load i_142_105 rfl rfl ?_
        refine w_getR 174 i_142_106 hκ (⟨rfl, by decide⟩ : isOb 134 7) rfl rfl ?_
        refine w_load i_142_109 rfl rfl ?_
        refine w_getR 148 i_142_110 hκ (⟨rfl, by decide⟩ : isOb 134 7) rfl rfl ?_
        refine w_load i_142_113 rfl rfl ?_
        refine w_ialdN (e := x) (v := v) i_142_114 hκ (⟨rfl, rfl, by decide⟩ : isAr 148 6) (by omega) (by decide) (hh1) ?_
        refine w_iald (v := (M 174 v.toNatClampNeg)) i_142_115 hκ (⟨rfl, rfl, by decide⟩ : isAr 174 12) (o1 h4 h7) (rfl) ?_
        refine w_goto i_142_116 ?_
        exact (by first | exact (K6) | (have K9 := K6; simp only [↓if_pos h7] at K9 ⊢; exact (K9)))
      · intro h8
        refine w_push i_142_119 rfl ?_
        exact (by first | exact (K6) | (have K9 := K6; simp only [↓if_neg h8] at K9 ⊢; exact (K9)))
    · intro h9
      exact absurd (by decide) h9
theorem i_142_357 : ins 142 357 = some (.iconst 1, 358, 0, 0, 0, 1) := rfl
theorem i_142_358 : ins 142 358 = some (.goto 4, 361, 362, 0, 0, 0) := rfl
theorem E142_86 {Q : Ou → Prop} {M : Mem} {κ : Kp} (hκ : Rd κ) {come : Nat} {cy : Int32} {xx : Int32} {tr : Int32}
    (k1 : ((xx < 0) ∨ ((¬ (xx < 0)) ∧ (¬ (tr < 0)))) → RT 143 (0, entL 143 [.ref 134, .int (nI come), .int (bI (if tr < 0 then false else true))], [], M, κ) (fun o => ∃ v M1 κ1, o = (.inl v, M1, κ1) ∧ RT 142 (365, [.ref 134, .int cy, .int (nI come), .int xx, .int tr, UU, UU, UU], v.toList ++ [], M1, κ1) Q))
    (k2 : ¬ (xx < 0) → tr < 0 → RT 142 (95, [.ref 134, .int cy, .int (nI come), .int xx, .int tr, UU, UU, UU], [], M, κ) Q)
    : RT 142 (86, [.ref 134, .int cy, .int (nI come), .int xx, .int tr, UU, UU, UU], [], M, κ) Q := by
  refine w_load i_142_86 rfl rfl ?_
  have K1 : ((xx < 0) ∨ ((¬ (xx < 0)) ∧ (¬ (tr < 0)))) → RT 142 (350, [.ref 134, .int cy, .int (nI come), .int xx, .int tr, UU, UU, UU], [], M, κ) Q := by
    intro h2
    refine w_load i_142_350 rfl rfl ?_
    refine w_load i_142_351 rfl rfl ?_
    refine w_load i_142_352 rfl rfl ?_
    have K3 : RT 142 (362, [.ref 134, .int cy, .int (nI come), .int xx, .int tr, UU, UU, UU], [.int (bI (if tr < 0 then false else true)), .int (nI come), .ref 134], M, κ) Q := by
      exact w_callVI (i := _) i_142_362 ⟨by decide, by decide, by decide, rfl⟩ hκ (⟨rfl, by decide⟩ : isOb 134 7) (av := [.int (nI come), .int (bI (if tr < 0 then false else true))]) (rest := []) rfl rfl (Nat.le_of_ble_eq_true rfl) (k1 h2)
    refine w_if0 (tr < 0) i_142_354 cI0_lt ?_ ?_
    · intro h4
      refine w_push i_142_361 rfl ?_
      exact (by first | exact (K3) | (have K9 := K3; simp only [↓if_pos h4] at K9 ⊢; exact (K9)))
    · intro h5
      refine w_push i_142_357 rfl ?_
      refine w_goto i_142_358 ?_
      exact (by first | exact (K3) | (have K9 := K3; simp only [↓if_neg h5] at K9 ⊢; exact (K9)))
  refine w_if0 (xx < 0) i_142_87 cI0_lt ?_ ?_
  · intro h6
    exact (by first | exact (K1 (.inl h6)) | (have K9 := K1 (.inl h6); simp only [↓if_pos h6] at K9 ⊢; exact (K9)))
  · intro h7
    refine w_load i_142_90 rfl rfl ?_
    refine w_if0n (tr < 0) i_142_92 cI0_ge ?_ ?_
    · intro h8
      exact (k2 h7 h8)
    · intro h9
      exact (by first | exact (K1 (.inr ⟨h7, h9⟩)) | (have K9 := K1 (.inr ⟨h7, h9⟩); simp only [↓if_neg h7, ↓if_neg h9] at K9 ⊢; exact (K9)))
theorem i_142_122 : ins 142 122 = some (.iload 5, 124, 5, 0, 0, 0) := rfl
theorem i_142_124 : ins 142 124 = some (.bipush 100, 126, 0, 0, 0, 100) := rfl
theorem i_142_126 : ins 142 126 = some (.if_icmp .gt 22, 129, 148, 0, 0, 0) := rfl
theorem i_142_129 : ins 142 129 = some (.iload_n 2, 130, 2, 0, 0, 0) := rfl
theorem i_142_130 : ins 142 130 = some (.iload 5, 132, 5, 0, 0, 0) := rfl
theorem i_142_132 : ins 142 132 = some (.iconst 1, 133, 0, 0, 0, 1) := rfl
theorem i_142_133 : ins 142 133 = some (.if_icmp .ge 7, 136, 140, 0, 0, 0) := rfl
theorem i_142_136 : ins 142 136 = some (.iconst 1, 137, 0, 0, 0, 1) := rfl
theorem i_142_137 : ins 142 137 = some (.goto 5, 140, 142, 0, 0, 0) := rfl
theorem i_142_140 : ins 142 140 = some (.iload 5, 142, 5, 0, 0, 0) := rfl
theorem i_142_142 : ins 142 142 = some (.iadd, 143, 0, 0, 0, 0) := rfl
theorem i_142_143 : ins 142 143 = some (.bipush 100, 145, 0, 0, 0, 100) := rfl
theorem i_142_145 : ins 142 145 = some (.if_icmp .le 10, 148, 155, 0, 0, 0) := rfl
theorem i_142_148 : ins 142 148 = some (.aload_n 0, 149, 0, 0, 0, 0) := rfl
theorem i_142_149 : ins 142 149 = some (.iconst 2, 150, 0, 0, 0, 2) := rfl
theorem i_142_150 : ins 142 150 = some (.putfield 159, 153, 7, 0, 0, 0) := rfl
theorem i_142_153 : ins 142 153 = some (.iconst 0, 154, 0, 0, 0, 0) := rfl
theorem i_142_154 : ins 142 154 = some (.ireturn, 155, 0, 0, 0, 0) := rfl
theorem i_142_155 : ins 142 155 = some (.iload_n 2, 156, 2, 0, 0, 0) := rfl
theorem i_142_156 : ins 142 156 = some (.iload 5, 158, 5, 0, 0, 0) := rfl
theorem i_142_158 : ins 142 158 = some (.iconst 1, 159, 0, 0, 0, 1) := rfl
theorem i_142_159 : ins 142 159 = some (.if_icmp .ge 7, 162, 166, 0, 0, 0) := rfl
theorem i_142_162 : ins 142 162 = some (.iconst 1, 163, 0, 0, 0, 1) := rfl
theorem i_142_163 : ins 142 163 = some (.goto 5, 166, 168, 0, 0, 0) := rfl
theorem i_142_166 : ins 142 166 = some (.iload 5, 168, 5, 0, 0, 0) := rfl
theorem i_142_168 : ins 142 168 = some (.iadd, 169, 0, 0, 0, 0) := rfl
theorem i_142_169 : ins 142 169 = some (.istore_n 2, 170, 2, 0, 0, 0) := rfl
theorem i_142_170 : ins 142 170 = some (.iconst 0, 171, 0, 0, 0, 0) := rfl
theorem i_142_171 : ins 142 171 = some (.istore 6, 173, 6, 0, 0, 0) := rfl
theorem S142_122 {Q : Ou → Prop} {M : Mem} {κ : Kp} (hκ : Rd κ) {x come : Nat} (hcm : come ≤ 100) (hx : x < 6) {cy : Int32} {ti : Int32}
    (k1 : ((100 < ti) ∨ ((¬ (100 < ti)) ∧ (100 < ((nI come) + (if ti < 1 then 1 else ti))))) → Q (.inl (some (.int 0)), (stM M 134 0 2), κ))
    (k2 : ¬ (100 < ti) → ¬ (100 < ((nI come) + (if ti < 1 then 1 else ti))) → RT 142 (173, [.ref 134, .int cy, .int ((nI come) + (if ti < 1 then 1 else ti)), .int (nI x), .int (-1), .int ti, .int (nI 0), UU], [], M, κ) Q)
    : RT 142 (122, [.ref 134, .int cy, .int (nI come), .int (nI x), .int (-1), .int ti, UU, UU], [], M, κ) Q := by
  refine w_load i_142_122 rfl rfl ?_
  refine w_push i_142_124 rfl ?_
  have K1 : ((100 < ti) ∨ ((¬ (100 < ti)) ∧ (100 < ((nI come) + (if ti < 1 then 1 else ti))))) → RT 142 (148, [.ref 134, .int cy, .int (nI come), .int (nI x), .int (-1), .int ti, UU, UU], [], M, κ) Q := by
    intro h2
    refine w_load i_142_148 rfl rfl ?_
    refine w_push i_142_149 rfl ?_
    refine w_putI i_142_150 hκ (⟨rfl, by decide⟩ : isOb 134 7) rfl (fun c => absurd c (by decide)) ?_
    refine w_push i_142_153 rfl ?_
    exact w_iret i_142_154 (.inl rfl) (k1 h2)
  refine w_if2 (100 < ti) i_142_126 cI_gt ?_ ?_
  · intro h3
    exact (by first | exact (K1 (.inl h3)) | (have K9 := K1 (.inl h3); simp only [↓if_pos h3] at K9 ⊢; exact (K9)))
  · intro h4
    refine w_load i_142_129 rfl rfl ?_
    refine w_load i_142_130 rfl rfl ?_
    refine w_push i_142_132 rfl ?_
    have K5 : RT 142 (142, [.ref 134, .int cy, .int (nI come), .int (nI x), .int (-1), .int ti, UU, UU], [.int (if ti < 1 then 1 else ti), .int (nI come)], M, κ) Q := by
      refine w_bin (w := ((nI come) + (if ti < 1 then 1 else ti))) i_142_142 rfl rfl ?_
      refine w_push i_142_143 rfl ?_
      refine w_if2n (100 < ((nI come) + (if ti < 1 then 1 else ti))) i_142_145 cI_le ?_ ?_
      · intro h6
        exact (by first | exact (K1 (.inr ⟨h4, h6⟩)) | (have K9 := K1 (.inr ⟨h4, h6⟩); simp only [↓if_neg h4, ↓if_pos h6] at K9 ⊢; exact (K9)))
      · intro h7
        refine w_load i_142_155 rfl rfl ?_
        refine w_load i_142_156 rfl rfl ?_
        refine w_push i_142_158 rfl ?_
        have K8 : RT 142 (168, [.ref 134, .int cy, .int (nI come), .int (nI x), .int (-1), .int ti, UU, UU], [.int (if ti < 1 then 1 else ti), .int (nI come)], M, κ) Q := by
          refine w_bin (w := ((nI come) + (if ti < 1 then 1 else ti))) i_142_168 rfl rfl ?_
          refine w_store (l1 := [.ref 134, .int cy, .int ((nI come) + (if ti < 1 then 1 else ti)), .int (nI x), .int (-1), .int ti, UU, UU]) i_142_169 rfl (Nat.le_of_ble_eq_true rfl) rfl ?_
          refine w_push i_142_170 rfl ?_
          refine w_store (l1 := [.ref 134, .int cy, .int ((nI come) + (if ti < 1 then 1 else ti)), .int (nI x), .int (-1), .int ti, .int 0, UU]) i_142_171 rfl (Nat.le_of_ble_eq_true rfl) rfl ?_
          exact (k2 h4 h7)
        refine w_if2n (ti < 1) i_142_159 cI_ge ?_ ?_
        · intro h9
          refine w_push i_142_162 rfl ?_
          refine w_goto i_142_163 ?_
          exact (by first | exact (K8) | (have K9 := K8; simp only [↓if_pos h9] at K9 ⊢; exact (K9)))
        · intro h10
          refine w_load i_142_166 rfl rfl ?_
          exact (by first | exact (K8) | (have K9 := K8; simp only [↓if_neg h10] at K9 ⊢; exact (K9)))
    refine w_if2n (ti < 1) i_142_133 cI_ge ?_ ?_
    · intro h11
      refine w_push i_142_136 rfl ?_
      refine w_goto i_142_137 ?_
      exact (by first | exact (K5) | (have K9 := K5; simp only [↓if_pos h11] at K9 ⊢; exact (K9)))
    · intro h12
      refine w_load i_142_140 rfl rfl ?_
      exact (by first | exact (K5) | (have K9 := K5; simp only [↓if_neg h12] at K9 ⊢; exact (K9)))
theorem i_142_173 : ins 142 173 = some (.iload 6, 175, 6, 0, 0, 0) := rfl
theorem i_142_175 : ins 142 175 = some (.iload 5, 177, 5, 0, 0, 0) := rfl
theorem i_142_177 : ins 142 177 = some (.if_icmp .ge 33, 180, 210, 0, 0, 0) := rfl
theorem i_142_180 : ins 142 180 = some (.iload 4, 182, 4, 0, 0, 0) := rfl
theorem i_142_182 : ins 142 182 = some (.ifCond .ge 28, 185, 210, 0, 0, 0) := rfl
theorem i_142_185 : ins 142 185 = some (.aload_n 0, 186, 0, 0, 0, 0) := rfl
theorem i_142_186 : ins 142 186 = some (.iload_n 3, 187, 3, 0, 0, 0) := rfl
theorem i_142_187 : ins 142 187 = some (.invokevirtual 303, 190, 140, 0, 2, 0) := rfl
theorem S142_173 {Q : Ou → Prop} {M : Mem} {κ : Kp} (hκ : Rd κ) {x come : Nat} (hx : x < 6) {cy : Int32} {tr : Int32} {ti : Int32} {ro : Nat} (b_ro : ro ≤ 100000)
    (k1 : (nI ro) < ti → tr < 0 → RT 140 (0, entL 140 [.ref 134, .int (nI x)], [], M, κ) (fun o => ∃ v M1 κ1, o = (.inl v, M1, κ1) ∧ RT 142 (190, [.ref 134, .int cy, .int (nI come), .int (nI x), .int tr, .int ti, .int (nI ro), UU], v.toList ++ [], M1, κ1) Q))
    (k2 : (nI ro) < ti → ¬ (tr < 0) → RT 142 (210, [.ref 134, .int cy, .int (nI come), .int (nI x), .int tr, .int ti, .int (nI ro), UU], [], M, κ) Q)
    (k3 : ¬ ((nI ro) < ti) → RT 142 (210, [.ref 134, .int cy, .int (nI come), .int (nI x), .int tr, .int ti, .int (nI ro), UU], [], M, κ) Q)
    : RT 142 (173, [.ref 134, .int cy, .int (nI come), .int (nI x), .int tr, .int ti, .int (nI ro), UU], [], M, κ) Q := by
  refine w_load i_142_173 rfl rfl ?_
  refine w_load i_142_175 rfl rfl ?_
  refine w_if2n ((nI ro) < ti) i_142_177 cI_ge ?_ ?_
  · intro h1
    refine w_load i_142_180 rfl rfl ?_
    refine w_if0n (tr < 0) i_142_182 cI0_ge ?_ ?_
    · intro h2
      refine w_load i_142_185 rfl rfl ?_
      refine w_load i_142_186 rfl rfl ?_
      exact w_callVI (i := _) i_142_187 ⟨by decide, by decide, by decide, rfl⟩ hκ (⟨rfl, by decide⟩ : isOb 134 7) (av := [.int (nI x)]) (rest := []) rfl rfl (Nat.le_of_ble_eq_true rfl) (k1 h1 h2)
    · intro h3
      exact (k2 h1 h3)
  · intro h4
    exact (k3 h4)
theorem i_142_190 : ins 142 190 = some (.istore 4, 192, 4, 0, 0, 0) := rfl
theorem i_142_192 : ins 142 192 = some (.iload 6, 194, 6, 0, 0, 0) := rfl
theorem i_142_194 : ins 142 194 = some (.iload 4, 196, 4, 0, 0, 0) := rfl
theorem i_142_196 : ins 142 196 = some (.ifCond .ge 7, 199, 203, 0, 0, 0) := rfl
theorem i_142_199 : ins 142 199 = some (.iconst 1, 200, 0, 0, 0, 1) := rfl
theorem i_142_200 : ins 142 200 = some (.goto 4, 203, 204, 0, 0, 0) := rfl
theorem i_142_203 : ins 142 203 = some (.iconst 0, 204, 0, 0, 0, 0) := rfl
theorem i_142_204 : ins 142 204 = some (.iadd, 205, 0, 0, 0, 0) := rfl
theorem i_142_205 : ins 142 205 = some (.istore 6, 207, 6, 0, 0, 0) := rfl
theorem i_142_207 : ins 142 207 = some (.goto (-34), 210, 173, 0, 0, 0) := rfl
theorem S142_190 {Q : Ou → Prop} {M : Mem} {κ : Kp} (hκ : Rd κ) {x come : Nat} (hx : x < 6) {cy : Int32} {ti : Int32} {ro : Nat} {tr : Int32} (b_ro : ro ≤ 100000)
    (k1 : RT 142 (173, [.ref 134, .int cy, .int (nI come), .int (nI x), .int tr, .int ti, .int ((nI ro) + (bI (if tr < 0 then true else false))), UU], [], M, κ) Q)
    : RT 142 (190, [.ref 134, .int cy, .int (nI come), .int (nI x), UU, .int ti, .int (nI ro), UU], [.int tr], M, κ) Q := by
  refine w_store (l1 := [.ref 134, .int cy, .int (nI come), .int (nI x), .int tr, .int ti, .int (nI ro), UU]) i_142_190 rfl (Nat.le_of_ble_eq_true rfl) rfl ?_
  refine w_load i_142_192 rfl rfl ?_
  refine w_load i_142_194 rfl rfl ?_
  have K1 : RT 142 (204, [.ref 134, .int cy, .int (nI come), .int (nI x), .int tr, .int ti, .int (nI ro), UU], [.int (bI (if tr < 0 then true else false)), .int (nI ro)], M, κ) Q := by
    refine w_bin (w := ((nI ro) + (bI (if tr < 0 then true else false)))) i_142_204 rfl rfl ?_
    refine w_store (l1 := [.ref 134, .int cy, .int (nI come), .int (nI x), .int tr, .int ti, .int ((nI ro) + (bI (if tr < 0 then true else false))), UU]) i_142_205 rfl (Nat.le_of_ble_eq_true rfl) rfl ?_
    refine w_goto i_142_207 ?_
    exact (k1)
  refine w_if0n (tr < 0) i_142_196 cI0_ge ?_ ?_
  · intro h2
    refine w_push i_142_199 rfl ?_
    refine w_goto i_142_200 ?_
    exact (by first | exact (K1) | (have K9 := K1; simp only [↓if_pos h2] at K9 ⊢; exact (K9)))
  · intro h3
    refine w_push i_142_203 rfl ?_
    exact (by first | exact (K1) | (have K9 := K1; simp only [↓if_neg h3] at K9 ⊢; exact (K9)))
theorem i_142_210 : ins 142 210 = some (.aload_n 0, 211, 0, 0, 0, 0) := rfl
theorem i_142_211 : ins 142 211 = some (.getfield 114, 214, 7, 38, 0, 0) := rfl
theorem i_142_214 : ins 142 214 = some (.iload_n 3, 215, 3, 0, 0, 0) := rfl
theorem i_142_215 : ins 142 215 = some (.iaload, 216, 0, 0, 0, 0) := rfl
theorem i_142_216 : ins 142 216 = some (.ifCond .le 7, 219, 223, 0, 0, 0) := rfl
theorem i_142_219 : ins 142 219 = some (.iconst 1, 220, 0, 0, 0, 1) := rfl
theorem i_142_220 : ins 142 220 = some (.goto 4, 223, 224, 0, 0, 0) := rfl
theorem i_142_223 : ins 142 223 = some (.iconst 0, 224, 0, 0, 0, 0) := rfl
theorem i_142_224 : ins 142 224 = some (.istore 7, 226, 7, 0, 0, 0) := rfl
theorem i_142_226 : ins 142 226 = some (.iload_n 1, 227, 1, 0, 0, 0) := rfl
theorem i_142_227 : ins 142 227 = some (.iconst 1, 228, 0, 0, 0, 1) := rfl
theorem i_142_228 : ins 142 228 = some (.iload 4, 230, 4, 0, 0, 0) := rfl
theorem i_142_230 : ins 142 230 = some (.ifCond .ge 13, 233, 243, 0, 0, 0) := rfl
theorem i_142_233 : ins 142 233 = some (.aload_n 0, 234, 0, 0, 0, 0) := rfl
theorem i_142_234 : ins 142 234 = some (.iload_n 3, 235, 3, 0, 0, 0) := rfl
theorem i_142_235 : ins 142 235 = some (.iload 5, 237, 5, 0, 0, 0) := rfl
theorem i_142_237 : ins 142 237 = some (.invokevirtual 306, 240, 141, 0, 3, 0) := rfl
theorem S142_210 {Q : Ou → Prop} {M : Mem} {κ : Kp} (hκ : Rd κ) {x ii come : Nat} (hx : x < 6) (hi8 : ii ≤ 80) (hii : M 163 x = nI ii) {cy : Int32} {ti : Int32} {ro : Nat} (b_ro : ro ≤ 100000)
    (k1 : RT 141 (0, entL 141 [.ref 134, .int (nI x), .int ti], [], M, κ) (fun o => ∃ v M1 κ1, o = (.inl v, M1, κ1) ∧ RT 142 (240, [.ref 134, .int cy, .int (nI come), .int (nI x), .int (-1), .int ti, .int (nI ro), .int (bI (if 0 < ii then true else false))], v.toList ++ [.int 1, .int cy], M1, κ1) Q))
    : RT 142 (210, [.ref 134, .int cy, .int (nI come), .int (nI x), .int (-1), .int ti, .int (nI ro), UU], [], M, κ) Q := by
  refine w_load i_142_210 rfl rfl ?_
  refine w_getR 163 i_142_211 hκ (⟨rfl, by decide⟩ : isOb 134 7) rfl rfl ?_
  refine w_load i_142_214 rfl rfl ?_
  refine w_ialdN (e := x) (v := (nI ii)) i_142_215 hκ (⟨rfl, rfl, by decide⟩ : isAr 163 6) (by omega) (by decide) (hii) ?_
  have K1 : RT 142 (224, [.ref 134, .int cy, .int (nI come), .int (nI x), .int (-1), .int ti, .int (nI ro), UU], [.int (bI (if 0 < ii then true else false))], M, κ) Q := by
    refine w_store (l1 := [.ref 134, .int cy, .int (nI come), .int (nI x), .int (-1), .int ti, .int (nI ro), .int (bI (if 0 < ii then true else false))]) i_142_224 rfl (Nat.le_of_ble_eq_true rfl) rfl ?_
    refine w_load i_142_226 rfl rfl ?_
    refine w_push i_142_227 rfl ?_
    refine w_load i_142_228 rfl rfl ?_
    refine w_if0n (((-1) : Int32) < 0) i_142_230 cI0_ge ?_ ?_
    · intro h2
      refine w_load i_142_233 rfl rfl ?_
      refine w_load i_142_234 rfl rfl ?_
      refine w_load i_142_235 rfl rfl ?_
      exact w_callVI (i := _) i_142_237 ⟨by decide, by decide, by decide, rfl⟩ hκ (⟨rfl, by decide⟩ : isOb 134 7) (av := [.int (nI x), .int ti]) (rest := [.int 1, .int cy]) rfl rfl (Nat.le_of_ble_eq_true rfl) (k1)
    · intro h3
      exact absurd (by decide) h3
  refine w_if0n (0 < ii) i_142_216 (cZ_le (a := ii) (by omega) (by decide)) ?_ ?_
  · intro h4
    refine w_push i_142_219 rfl ?_
    refine w_goto i_142_220 ?_
    exact (by first | exact (K1) | (have K9 := K1; simp only [↓if_pos h4] at K9 ⊢; exact (K9)))
  · intro h5
    refine w_push i_142_223 rfl ?_
    exact (by first | exact (K1) | (have K9 := K1; simp only [↓if_neg h5] at K9 ⊢; exact (K9)))
theorem i_142_240 : ins 142 240 = some (.goto 49, 243, 289, 0, 0, 0) := rfl
theorem i_142_289 : ins 142 289 = some (.iadd, 290, 0, 0, 0, 0) := rfl
theorem i_142_290 : ins 142 290 = some (.iadd, 291, 0, 0, 0, 0) := rfl
theorem S142_240 {Q : Ou → Prop} {M : Mem} {κ : Kp} (hκ : Rd κ) {x come : Nat} (hx : x < 6) {cy : Int32} {ti : Int32} {ro : Nat} {rw : Bool} {tk : Int32} (b_ro : ro ≤ 100000)
    (k1 : RT 142 (291, [.ref 134, UU, .int (nI come), .int (nI x), .int (-1), UU, UU, UU], [.int (cy + (1 + tk))], M, κ) Q)
    : RT 142 (240, [.ref 134, .int cy, .int (nI come), .int (nI x), .int (-1), .int ti, .int (nI ro), .int (bI rw)], [.int tk, .int 1, .int cy], M, κ) Q := by
  refine w_goto i_142_240 ?_
  refine w_bin (w := (1 + tk)) i_142_289 rfl rfl ?_
  refine w_bin (w := (cy + (1 + tk))) i_142_290 rfl rfl ?_
  exact w_weak (lle_s (lle_u (lle_s (lle_s (lle_s (lle_u (lle_u (lle_u lle_n)))))))) (k1)
theorem i_142_243 : ins 142 243 = some (.iload 6, 245, 6, 0, 0, 0) := rfl
theorem i_142_245 : ins 142 245 = some (.iload 7, 247, 7, 0, 0, 0) := rfl
theorem i_142_247 : ins 142 247 = some (.ifCond .eq 12, 250, 259, 0, 0, 0) := rfl
theorem i_142_250 : ins 142 250 = some (.aload_n 0, 251, 0, 0, 0, 0) := rfl
theorem i_142_251 : ins 142 251 = some (.getfield 114, 254, 7, 38, 0, 0) := rfl
theorem i_142_254 : ins 142 254 = some (.iload_n 3, 255, 3, 0, 0, 0) := rfl
theorem i_142_255 : ins 142 255 = some (.iaload, 256, 0, 0, 0, 0) := rfl
theorem i_142_256 : ins 142 256 = some (.goto 9, 259, 265, 0, 0, 0) := rfl
theorem i_142_259 : ins 142 259 = some (.aload_n 0, 260, 0, 0, 0, 0) := rfl
theorem i_142_260 : ins 142 260 = some (.getfield 108, 263, 7, 36, 0, 0) := rfl
theorem i_142_263 : ins 142 263 = some (.iload_n 3, 264, 3, 0, 0, 0) := rfl
theorem i_142_264 : ins 142 264 = some (.iaload, 265, 0, 0, 0, 0) := rfl
theorem i_142_265 : ins 142 265 = some (.imul, 266, 0, 0, 0, 0) := rfl
theorem i_142_266 : ins 142 266 = some (.iload 7, 268, 7, 0, 0, 0) := rfl
theorem i_142_268 : ins 142 268 = some (.ifCond .eq 13, 271, 281, 0, 0, 0) := rfl
theorem i_142_271 : ins 142 271 = some (.aload_n 0, 272, 0, 0, 0, 0) := rfl
theorem i_142_272 : ins 142 272 = some (.getfield 105, 275, 7, 35, 0, 0) := rfl
theorem i_142_275 : ins 142 275 = some (.iload 4, 277, 4, 0, 0, 0) := rfl
theorem i_142_277 : ins 142 277 = some (.iaload, 278, 0, 0, 0, 0) := rfl
theorem i_142_278 : ins 142 278 = some (.goto 10, 281, 288, 0, 0, 0) := rfl
theorem i_142_281 : ins 142 281 = some (.aload_n 0, 282, 0, 0, 0, 0) := rfl
theorem i_142_282 : ins 142 282 = some (.getfield 102, 285, 7, 34, 0, 0) := rfl
theorem i_142_285 : ins 142 285 = some (.iload 4, 287, 4, 0, 0, 0) := rfl
theorem i_142_287 : ins 142 287 = some (.iaload, 288, 0, 0, 0, 0) := rfl
theorem i_142_288 : ins 142 288 = some (.iadd, 289, 0, 0, 0, 0) := rfl
theorem T142_210 {Q : Ou → Prop} {M : Mem} {κ : Kp} (hκ : Rd κ) {x ii len k come : Nat} {la lb : Int32} (hx : x < 6) (hk : k < 10) (hi8 : ii ≤ 80) (hl8 : len ≤ 80) (hii : M 163 x = nI ii) (hlen : M 161 x = nI len) (hla : M 159 (10 * x + k) = la) (hlb : M 160 (10 * x + k) = lb) {cy : Int32} {ti : Int32} {ro : Nat} (b_ro : ro ≤ 100000)
    (k1 : ((10 * x) + k) < 0 → RT 141 (0, entL 141 [.ref 134, .int (nI x), .int ti], [], M, κ) (fun o => ∃ v M1 κ1, o = (.inl v, M1, κ1) ∧ RT 142 (240, [.ref 134, .int cy, .int (nI come), .int (nI x), .int (nI ((10 * x) + k)), .int ti, .int (nI ro), .int (bI (if 0 < ii then true else false))], v.toList ++ [.int 1, .int cy], M1, κ1) Q))
    (k2 : ¬ (((10 * x) + k) < 0) → RT 142 (291, [.ref 134, UU, .int (nI come), .int (nI x), .int (nI ((10 * x) + k)), UU, UU, UU], [.int (cy + (1 + ((nI (ro * (if (if 0 < ii then true else false) = true then ii else len))) + (if (if 0 < ii then true else false) = true then lb else la))))], M, κ) Q)
    : RT 142 (210, [.ref 134, .int cy, .int (nI come), .int (nI x), .int (nI ((10 * x) + k)), .int ti, .int (nI ro), UU], [], M, κ) Q := by
  refine w_load i_142_210 rfl rfl ?_
  refine w_getR 163 i_142_211 hκ (⟨rfl, by decide⟩ : isOb 134 7) rfl rfl ?_
  refine w_load i_142_214 rfl rfl ?_
  refine w_ialdN (e := x) (v := (nI ii)) i_142_215 hκ (⟨rfl, rfl, by decide⟩ : isAr 163 6) (by omega) (by decide) (hii) ?_
  have K1 : RT 142 (224, [.ref 134, .int cy, .int (nI come), .int (nI x), .int (nI ((10 * x) + k)), .int ti, .int (nI ro), UU], [.int (bI (if 0 < ii then true else false))], M, κ) Q := by
    refine w_store (l1 := [.ref 134, .int cy, .int (nI come), .int (nI x), .int (nI ((10 * x) + k)), .int ti, .int (nI ro), .int (bI (if 0 < ii then true else false))]) i_142_224 rfl (Nat.le_of_ble_eq_true rfl) rfl ?_
    refine w_load i_142_226 rfl rfl ?_
    refine w_push i_142_227 rfl ?_
    refine w_load i_142_228 rfl rfl ?_
    refine w_if0n (((10 * x) + k) < 0) i_142_230 (cZ_ge (a := ((10 * x) + k)) (by omega) (by decide)) ?_ ?_
    · intro h2
      refine w_load i_142_233 rfl rfl ?_
      refine w_load i_142_234 rfl rfl ?_
      refine w_load i_142_235 rfl rfl ?_
      exact w_callVI (i := _) i_142_237 ⟨by decide, by decide, by decide, rfl⟩ hκ (⟨rfl, by decide⟩ : isOb 134 7) (av := [.int (nI x), .int ti]) (rest := [.int 1, .int cy]) rfl rfl (Nat.le_of_ble_eq_true rfl) (k1 h2)
    · intro h3
      refine w_load i_142_243 rfl rfl ?_
      refine w_load i_142_245 rfl rfl ?_
      have K4 : RT 142 (265, [.ref 134, .int cy, .int (nI come), .int (nI x), .int (nI ((10 * x) + k)), .int ti, .int (nI ro), .int (bI (if 0 < ii then true else false))], [.int (nI (if (if 0 < ii then true else false) = true then ii else len)), .int (nI ro), .int 1, .int cy], M, κ) Q := by
        refine w_bin (w := (nI (ro * (if (if 0 < ii then true else false) = true then ii else len)))) i_142_265 rfl (nI_mul ro (if (if 0 < ii then true else false) = true then ii else len)) ?_
        refine w_load i_142_266 rfl rfl ?_
        have K5 : RT 142 (288, [.ref 134, .int cy, .int (nI come), .int (nI x), .int (nI ((10 * x) + k)), .int ti, .int (nI ro), .int (bI (if 0 < ii then true else false))], [.int (if (if 0 < ii then true else false) = true then lb else la), .int (nI (ro * (if (if 0 < ii then true else false) = true then ii else len))), .int 1, .int cy], M, κ) Q := by
          refine w_bin (w := ((nI (ro * (if (if 0 < ii then true else false) = true then ii else len))) + (if (if 0 < ii then true else false) = true then lb else la))) i_142_288 rfl rfl ?_
          refine w_bin (w := (1 + ((nI (ro * (if (if 0 < ii then true else false) = true then ii else len))) + (if (if 0 < ii then true else false) = true then lb else la)))) i_142_289 rfl rfl ?_
          refine w_bin (w := (cy + (1 + ((nI (ro * (if (if 0 < ii then true else false) = true then ii else len))) + (if (if 0 < ii then true else false) = true then lb else la))))) i_142_290 rfl rfl ?_
          exact w_weak (lle_s (lle_u (lle_s (lle_s (lle_s (lle_u (lle_u (lle_u lle_n)))))))) (k2 h3)
        refine w_if0n ((if 0 < ii then true else false) = true) i_142_268 cB_eq ?_ ?_
        · intro h6
          refine w_load i_142_271 rfl rfl ?_
          refine w_getR 160 i_142_272 hκ (⟨rfl, by decide⟩ : isOb 134 7) rfl rfl ?_
          refine w_load i_142_275 rfl rfl ?_
          refine w_ialdN (e := ((10 * x) + k)) (v := lb) i_142_277 hκ (⟨rfl, rfl, by decide⟩ : isAr 160 60) (by omega) (by decide) (hlb) ?_
          refine w_goto i_142_278 ?_
          exact (by first | exact (K5) | (have K9 := K5; simp only [↓if_pos h6] at K9 ⊢; exact (K9)))
        · intro h7
          refine w_load i_142_281 rfl rfl ?_
          refine w_getR 159 i_142_282 hκ (⟨rfl, by decide⟩ : isOb 134 7) rfl rfl ?_
          refine w_load i_142_285 rfl rfl ?_
          refine w_ialdN (e := ((10 * x) + k)) (v := la) i_142_287 hκ (⟨rfl, rfl, by decide⟩ : isAr 159 60) (by omega) (by decide) (hla) ?_
          exact (by first | exact (K5) | (have K9 := K5; simp only [↓if_neg h7] at K9 ⊢; exact (K9)))
      refine w_if0n ((if 0 < ii then true else false) = true) i_142_247 cB_eq ?_ ?_
      · intro h8
        refine w_load i_142_250 rfl rfl ?_
        refine w_getR 163 i_142_251 hκ (⟨rfl, by decide⟩ : isOb 134 7) rfl rfl ?_
        refine w_load i_142_254 rfl rfl ?_
        refine w_ialdN (e := x) (v := (nI ii)) i_142_255 hκ (⟨rfl, rfl, by decide⟩ : isAr 163 6) (by omega) (by decide) (hii) ?_
        refine w_goto i_142_256 ?_
        exact (by first | exact (K4) | (have K9 := K4; simp only [↓if_pos h8] at K9 ⊢; exact (K9)))
      · intro h9
        refine w_load i_142_259 rfl rfl ?_
        refine w_getR 161 i_142_260 hκ (⟨rfl, by decide⟩ : isOb 134 7) rfl rfl ?_
        refine w_load i_142_263 rfl rfl ?_
        refine w_ialdN (e := x) (v := (nI len)) i_142_264 hκ (⟨rfl, rfl, by decide⟩ : isAr 161 6) (by omega) (by decide) (hlen) ?_
        exact (by first | exact (K4) | (have K9 := K4; simp only [↓if_neg h9] at K9 ⊢; exact (K9)))
  refine w_if0n (0 < ii) i_142_216 (cZ_le (a := ii) (by omega) (by decide)) ?_ ?_
  · intro h10
    refine w_push i_142_219 rfl ?_
    refine w_goto i_142_220 ?_
    exact (by first | exact (K1) | (have K9 := K1; simp only [↓if_pos h10] at K9 ⊢; exact (K9)))
  · intro h11
    refine w_push i_142_223 rfl ?_
    exact (by first | exact (K1) | (have K9 := K1; simp only [↓if_neg h11] at K9 ⊢; exact (K9)))
theorem i_142_291 : ins 142 291 = some (.istore_n 1, 292, 1, 0, 0, 0) := rfl
theorem i_142_292 : ins 142 292 = some (.aload_n 0, 293, 0, 0, 0, 0) := rfl
theorem i_142_293 : ins 142 293 = some (.getfield 66, 296, 7, 22, 0, 0) := rfl
theorem i_142_296 : ins 142 296 = some (.iload_n 3, 297, 3, 0, 0, 0) := rfl
theorem i_142_297 : ins 142 297 = some (.iaload, 298, 0, 0, 0, 0) := rfl
theorem i_142_298 : ins 142 298 = some (.ifCond .ne 7, 301, 305, 0, 0, 0) := rfl
theorem i_142_301 : ins 142 301 = some (.iconst (-1), 302, 0, 0, 0, (-1)) := rfl
theorem i_142_302 : ins 142 302 = some (.goto 44, 305, 346, 0, 0, 0) := rfl
theorem i_142_305 : ins 142 305 = some (.aload_n 0, 306, 0, 0, 0, 0) := rfl
theorem i_142_306 : ins 142 306 = some (.getfield 66, 309, 7, 22, 0, 0) := rfl
theorem i_142_309 : ins 142 309 = some (.iload_n 3, 310, 3, 0, 0, 0) := rfl
theorem i_142_310 : ins 142 310 = some (.iaload, 311, 0, 0, 0, 0) := rfl
theorem i_142_311 : ins 142 311 = some (.invokestatic 180, 314, 104, 1, 1, 0) := rfl
theorem i_142_314 : ins 142 314 = some (.ifCond .eq 26, 317, 340, 0, 0, 0) := rfl
theorem i_142_317 : ins 142 317 = some (.aload_n 0, 318, 0, 0, 0, 0) := rfl
theorem i_142_318 : ins 142 318 = some (.getfield 147, 321, 7, 49, 0, 0) := rfl
theorem i_142_321 : ins 142 321 = some (.aload_n 0, 322, 0, 0, 0, 0) := rfl
theorem i_142_322 : ins 142 322 = some (.getfield 69, 325, 7, 23, 0, 0) := rfl
theorem i_142_325 : ins 142 325 = some (.iload_n 3, 326, 3, 0, 0, 0) := rfl
theorem i_142_326 : ins 142 326 = some (.iaload, 327, 0, 0, 0, 0) := rfl
theorem i_142_327 : ins 142 327 = some (.iaload, 328, 0, 0, 0, 0) := rfl
theorem i_142_328 : ins 142 328 = some (.ifCond .ne 12, 331, 340, 0, 0, 0) := rfl
theorem i_142_331 : ins 142 331 = some (.aload_n 0, 332, 0, 0, 0, 0) := rfl
theorem i_142_332 : ins 142 332 = some (.getfield 75, 335, 7, 25, 0, 0) := rfl
theorem i_142_335 : ins 142 335 = some (.iload_n 3, 336, 3, 0, 0, 0) := rfl
theorem i_142_336 : ins 142 336 = some (.iaload, 337, 0, 0, 0, 0) := rfl
theorem i_142_337 : ins 142 337 = some (.goto 9, 340, 346, 0, 0, 0) := rfl
theorem i_142_340 : ins 142 340 = some (.aload_n 0, 341, 0, 0, 0, 0) := rfl
theorem i_142_341 : ins 142 341 = some (.getfield 72, 344, 7, 24, 0, 0) := rfl
theorem i_142_344 : ins 142 344 = some (.iload_n 3, 345, 3, 0, 0, 0) := rfl
theorem i_142_345 : ins 142 345 = some (.iaload, 346, 0, 0, 0, 0) := rfl
theorem i_142_346 : ins 142 346 = some (.istore_n 3, 347, 3, 0, 0, 0) := rfl
theorem i_142_347 : ins 142 347 = some (.goto (-261), 350, 86, 0, 0, 0) := rfl
theorem S142_291 {Q : Ou → Prop} {M : Mem} {κ : Kp} (hκ : Rd κ) {x t f come : Nat} {e v : Int32} (hx : x < 6) (hh0 : M 147 x = e) (hh1 : M 148 x = v) (hh2 : M 149 x = nI t) (hh3 : M 150 x = nI f) {tr : Int32} {cz : Int32}
    (o1 : ¬ (e = 0) → (forks e) = true → vp_in v 12)
    (k1 : RT 142 (86, [.ref 134, .int cz, .int (nI come), .int (if e = 0 then (-1) else (if (forks e) = true then (if (M 174 v.toNatClampNeg) = 0 then (nI f) else (nI t)) else (nI t))), .int tr, UU, UU, UU], [], M, κ) Q)
    : RT 142 (291, [.ref 134, UU, .int (nI come), .int (nI x), .int tr, UU, UU, UU], [.int cz], M, κ) Q := by
  refine w_store (l1 := [.ref 134, .int cz, .int (nI come), .int (nI x), .int tr, UU, UU, UU]) i_142_291 rfl (Nat.le_of_ble_eq_true rfl) rfl ?_
  refine w_load i_142_292 rfl rfl ?_
  refine w_getR 147 i_142_293 hκ (⟨rfl, by decide⟩ : isOb 134 7) rfl rfl ?_
  refine w_load i_142_296 rfl rfl ?_
  refine w_ialdN (e := x) (v := e) i_142_297 hκ (⟨rfl, rfl, by decide⟩ : isAr 147 6) (by omega) (by decide) (hh0) ?_
  have K1 : RT 142 (346, [.ref 134, .int cz, .int (nI come), .int (nI x), .int tr, UU, UU, UU], [.int (if e = 0 then (-1) else (if (forks e) = true then (if (M 174 v.toNatClampNeg) = 0 then (nI f) else (nI t)) else (nI t)))], M, κ) Q := by
    refine w_store (l1 := [.ref 134, .int cz, .int (nI come), .int (if e = 0 then (-1) else (if (forks e) = true then (if (M 174 v.toNatClampNeg) = 0 then (nI f) else (nI t)) else (nI t))), .int tr, UU, UU, UU]) i_142_346 rfl (Nat.le_of_ble_eq_true rfl) rfl ?_
    refine w_goto i_142_347 ?_
    exact (k1)
  refine w_if0n (e = 0) i_142_298 cI0_ne ?_ ?_
  · intro h2
    refine w_push i_142_301 rfl ?_
    refine w_goto i_142_302 ?_
    exact (by first | exact (K1) | (have K9 := K1; simp only [↓if_pos h2] at K9 ⊢; exact (K9)))
  · intro h3
    refine w_load i_142_305 rfl rfl ?_
    refine w_getR 147 i_142_306 hκ (⟨rfl, by decide⟩ : isOb 134 7) rfl rfl ?_
    refine w_load i_142_309 rfl rfl ?_
    refine w_ialdN (e := x) (v := e) i_142_310 hκ (⟨rfl, rfl, by decide⟩ : isAr 147 6) (by omega) (by decide) (hh0) ?_
    refine w_callS i_142_311 ⟨by decide, by decide, by decide, rfl, rfl⟩ (av := [.int e]) (rest := []) rfl rfl (Nat.le_of_ble_eq_true rfl) (v := some (.int (bI (forks e)))) (c104 hκ) ?_
    refine w_if0n ((forks e) = true) i_142_314 cB_eq ?_ ?_
    · intro h4
      refine w_load i_142_317 rfl rfl ?_
      refine w_getR 174 i_142_318 hκ (⟨rfl, by decide⟩ : isOb 134 7) rfl rfl ?_
      refine w_load i_142_321 rfl rfl ?_
      refine w_getR 148 i_142_322 hκ (⟨rfl, by decide⟩ : isOb 134 7) rfl rfl ?_
      refine w_load i_142_325 rfl rfl ?_
      refine w_ialdN (e := x) (v := v) i_142_326 hκ (⟨rfl, rfl, by decide⟩ : isAr 148 6) (by omega) (by decide) (hh1) ?_
      refine w_iald (v := (M 174 v.toNatClampNeg)) i_142_327 hκ (⟨rfl, rfl, by decide⟩ : isAr 174 12) (o1 h3 h4) (rfl) ?_
      refine w_if0n ((M 174 v.toNatClampNeg) = 0) i_142_328 cI0_ne ?_ ?_
      · intro h5
        refine w_load i_142_331 rfl rfl ?_
        refine w_getR 150 i_142_332 hκ (⟨rfl, by decide⟩ : isOb 134 7) rfl rfl ?_
        refine w_load i_142_335 rfl rfl ?_
        refine w_ialdN (e := x) (v := (nI f)) i_142_336 hκ (⟨rfl, rfl, by decide⟩ : isAr 150 6) (by omega) (by decide) (hh3) ?_
        refine w_goto i_142_337 ?_
        exact (by first | exact (K1) | (have K9 := K1; simp only [↓if_neg h3, ↓if_pos h4, ↓if_pos h5] at K9 ⊢; exact (K9)))
      · intro h6
        refine w_load i_142_340 rfl rfl ?_
        refine w_getR 149 i_142_341 hκ (⟨rfl, by decide⟩ : isOb 134 7) rfl rfl ?_
        refine w_load i_142_344 rfl rfl ?_
        refine w_ialdN (e := x) (v := (nI t)) i_142_345 hκ (⟨rfl, rfl, by decide⟩ : isAr 149 6) (by omega) (by decide) (hh2) ?_
        exact (by first | exact (K1) | (have K9 := K1; simp only [↓if_neg h3, ↓if_pos h4, ↓if_neg h6] at K9 ⊢; exact (K9)))
    · intro h7
      refine w_load i_142_340 rfl rfl ?_
      refine w_getR 149 i_142_341 hκ (⟨rfl, by decide⟩ : isOb 134 7) rfl rfl ?_
      refine w_load i_142_344 rfl rfl ?_
      refine w_ialdN (e := x) (v := (nI t)) i_142_345 hκ (⟨rfl, rfl, by decide⟩ : isAr 149 6) (by omega) (by decide) (hh2) ?_
      exact (by first | exact (K1) | (have K9 := K1; simp only [↓if_neg h3, ↓if_neg h7] at K9 ⊢; exact (K9)))
theorem i_142_365 : ins 142 365 = some (.iload_n 1, 366, 1, 0, 0, 0) := rfl
theorem i_142_366 : ins 142 366 = some (.ireturn, 367, 0, 0, 0, 0) := rfl
theorem S142_365 {Q : Ou → Prop} {M : Mem} {κ : Kp} (hκ : Rd κ) {cc : Int32} 
    (k1 : Q (.inl (some (.int cc)), M, κ))
    : RT 142 (365, [UU, .int cc, UU, UU, UU, UU, UU, UU], [], M, κ) Q := by
  refine w_load i_142_365 rfl rfl ?_
  exact w_iret i_142_366 (.inl rfl) (k1)
theorem i_143_0 : ins 143 0 = some (.aload_n 0, 1, 0, 0, 0, 0) := rfl
theorem i_143_1 : ins 143 1 = some (.iload_n 1, 2, 1, 0, 0, 0) := rfl
theorem i_143_2 : ins 143 2 = some (.putfield 313, 5, 7, 55, 0, 0) := rfl
theorem i_143_5 : ins 143 5 = some (.aload_n 0, 6, 0, 0, 0, 0) := rfl
theorem i_143_6 : ins 143 6 = some (.iload_n 2, 7, 2, 0, 0, 0) := rfl
theorem i_143_7 : ins 143 7 = some (.ifCond .eq 7, 10, 14, 0, 0, 0) := rfl
theorem i_143_10 : ins 143 10 = some (.iconst 1, 11, 0, 0, 0, 1) := rfl
theorem i_143_11 : ins 143 11 = some (.goto 4, 14, 15, 0, 0, 0) := rfl
theorem i_143_14 : ins 143 14 = some (.iconst 0, 15, 0, 0, 0, 0) := rfl
theorem i_143_15 : ins 143 15 = some (.putfield 316, 18, 7, 56, 0, 0) := rfl
theorem i_143_18 : ins 143 18 = some (.aload_n 0, 19, 0, 0, 0, 0) := rfl
theorem i_143_19 : ins 143 19 = some (.aload_n 0, 20, 0, 0, 0, 0) := rfl
theorem i_143_20 : ins 143 20 = some (.getfield 297, 23, 7, 54, 0, 0) := rfl
theorem i_143_23 : ins 143 23 = some (.putfield 319, 26, 7, 53, 0, 0) := rfl
theorem i_143_26 : ins 143 26 = some (.iconst 0, 27, 0, 0, 0, 0) := rfl
theorem i_143_27 : ins 143 27 = some (.istore_n 3, 28, 3, 0, 0, 0) := rfl
theorem S143_0 {Q : Ou → Prop} {M : Mem} {κ : Kp} (hκ : Rd κ)  {come : Nat} {tp : Bool} (b_come : come ≤ 100000)
    (k1 : RT 143 (28, [.ref 134, UU, .int (bI tp), .int (nI 0)], [], (stM (stM (stM M 134 55 (nI come)) 134 56 (bI (if tp = true then true else false))) 134 53 (M 134 54)), κ) Q)
    : RT 143 (0, [.ref 134, .int (nI come), .int (bI tp), UU], [], M, κ) Q := by
  refine w_load i_143_0 rfl rfl ?_
  refine w_load i_143_1 rfl rfl ?_
  refine w_putI i_143_2 hκ (⟨rfl, by decide⟩ : isOb 134 7) rfl (fun c => absurd c (by decide)) ?_
  refine w_load i_143_5 rfl rfl ?_
  refine w_load i_143_6 rfl rfl ?_
  have K1 : RT 143 (15, [.ref 134, .int (nI come), .int (bI tp), UU], [.int (bI (if tp = true then true else false)), .ref 134], (stM M 134 55 (nI come)), κ) Q := by
    refine w_putI i_143_15 hκ (⟨rfl, by decide⟩ : isOb 134 7) rfl (fun c => absurd c (by decide)) ?_
    refine w_load i_143_18 rfl rfl ?_
    refine w_load i_143_19 rfl rfl ?_
    refine w_getI (v := (M 134 54)) i_143_20 hκ (⟨rfl, by decide⟩ : isOb 134 7) rfl ((stM_j (by decide)).trans ((stM_j (by decide)).trans (rfl))) ?_
    refine w_putI i_143_23 hκ (⟨rfl, by decide⟩ : isOb 134 7) rfl (fun c => absurd c (by decide)) ?_
    refine w_push i_143_26 rfl ?_
    refine w_store (l1 := [.ref 134, .int (nI come), .int (bI tp), .int 0]) i_143_27 rfl (Nat.le_of_ble_eq_true rfl) rfl ?_
    exact w_weak (lle_s (lle_u (lle_s (lle_s lle_n)))) (k1)
  refine w_if0n (tp = true) i_143_7 cB_eq ?_ ?_
  · intro h2
    refine w_push i_143_10 rfl ?_
    refine w_goto i_143_11 ?_
    exact (by first | exact (K1) | (have K9 := K1; simp only [↓if_pos h2] at K9 ⊢; exact (K9)))
  · intro h3
    refine w_push i_143_14 rfl ?_
    exact (by first | exact (K1) | (have K9 := K1; simp only [↓if_neg h3] at K9 ⊢; exact (K9)))
theorem i_143_28 : ins 143 28 = some (.iload_n 3, 29, 3, 0, 0, 0) := rfl
theorem i_143_29 : ins 143 29 = some (.bipush 64, 31, 0, 0, 0, 64) := rfl
theorem i_143_31 : ins 143 31 = some (.if_icmp .ge 33, 34, 64, 0, 0, 0) := rfl
theorem i_143_34 : ins 143 34 = some (.aload_n 0, 35, 0, 0, 0, 0) := rfl
theorem i_143_35 : ins 143 35 = some (.getfield 141, 38, 7, 47, 0, 0) := rfl
theorem i_143_38 : ins 143 38 = some (.iload_n 3, 39, 3, 0, 0, 0) := rfl
theorem i_143_39 : ins 143 39 = some (.aload_n 0, 40, 0, 0, 0, 0) := rfl
theorem i_143_40 : ins 143 40 = some (.getfield 144, 43, 7, 48, 0, 0) := rfl
theorem i_143_43 : ins 143 43 = some (.iload_n 3, 44, 3, 0, 0, 0) := rfl
theorem i_143_44 : ins 143 44 = some (.iaload, 45, 0, 0, 0, 0) := rfl
theorem i_143_45 : ins 143 45 = some (.iastore, 46, 0, 0, 0, 0) := rfl
theorem i_143_46 : ins 143 46 = some (.aload_n 0, 47, 0, 0, 0, 0) := rfl
theorem i_143_47 : ins 143 47 = some (.getfield 153, 50, 7, 51, 0, 0) := rfl
theorem i_143_50 : ins 143 50 = some (.iload_n 3, 51, 3, 0, 0, 0) := rfl
theorem i_143_51 : ins 143 51 = some (.aload_n 0, 52, 0, 0, 0, 0) := rfl
theorem i_143_52 : ins 143 52 = some (.getfield 156, 55, 7, 52, 0, 0) := rfl
theorem i_143_55 : ins 143 55 = some (.iload_n 3, 56, 3, 0, 0, 0) := rfl
theorem i_143_56 : ins 143 56 = some (.iaload, 57, 0, 0, 0, 0) := rfl
theorem i_143_57 : ins 143 57 = some (.iastore, 58, 0, 0, 0, 0) := rfl
theorem i_143_58 : ins 143 58 = some (.iinc 3 1, 61, 3, 0, 0, 1) := rfl
theorem i_143_61 : ins 143 61 = some (.goto (-33), 64, 28, 0, 0, 0) := rfl
theorem i_143_64 : ins 143 64 = some (.iconst 0, 65, 0, 0, 0, 0) := rfl
theorem i_143_65 : ins 143 65 = some (.istore_n 3, 66, 3, 0, 0, 0) := rfl
theorem S143_28 {Q : Ou → Prop} {M : Mem} {κ : Kp} (hκ : Rd κ) {k : Nat} (hk : k ≤ 64) {tp : Bool}
    (k1 : k < 64 → RT 143 (28, [.ref 134, UU, .int (bI tp), .int (nI (k + 1))], [], (stM (stM M 172 k (M 173 k)) 176 k (M 177 k)), κ) Q)
    (k2 : ¬ (k < 64) → RT 143 (66, [.ref 134, UU, .int (bI tp), .int (nI 0)], [], M, κ) Q)
    : RT 143 (28, [.ref 134, UU, .int (bI tp), .int (nI k)], [], M, κ) Q := by
  refine w_load i_143_28 rfl rfl ?_
  refine w_push i_143_29 rfl ?_
  refine w_if2n (k < 64) i_143_31 (cN_ge (a := k) (b := 64) (by omega) (by omega)) ?_ ?_
  · intro h1
    refine w_load i_143_34 rfl rfl ?_
    refine w_getR 172 i_143_35 hκ (⟨rfl, by decide⟩ : isOb 134 7) rfl rfl ?_
    refine w_load i_143_38 rfl rfl ?_
    refine w_load i_143_39 rfl rfl ?_
    refine w_getR 173 i_143_40 hκ (⟨rfl, by decide⟩ : isOb 134 7) rfl rfl ?_
    refine w_load i_143_43 rfl rfl ?_
    refine w_ialdN (e := k) (v := (M 173 k)) i_143_44 hκ (⟨rfl, rfl, by decide⟩ : isAr 173 64) (by omega) (by decide) (rfl) ?_
    refine w_iastN (e := k) i_143_45 hκ (⟨rfl, rfl, by decide⟩ : isAr 172 64) (by omega) (by decide) ?_
    refine w_load i_143_46 rfl rfl ?_
    refine w_getR 176 i_143_47 hκ (⟨rfl, by decide⟩ : isOb 134 7) rfl rfl ?_
    refine w_load i_143_50 rfl rfl ?_
    refine w_load i_143_51 rfl rfl ?_
    refine w_getR 177 i_143_52 hκ (⟨rfl, by decide⟩ : isOb 134 7) rfl rfl ?_
    refine w_load i_143_55 rfl rfl ?_
    refine w_ialdN (e := k) (v := (M 177 k)) i_143_56 hκ (⟨rfl, rfl, by decide⟩ : isAr 177 64) (by omega) (by decide) ((stM_o (by decide)).trans (rfl)) ?_
    refine w_iastN (e := k) i_143_57 hκ (⟨rfl, rfl, by decide⟩ : isAr 176 64) (by omega) (by decide) ?_
    refine w_iincN (n := k) (l1 := [.ref 134, UU, .int (bI tp), .int (nI (k + 1))]) 1 i_143_58 rfl rfl ?_
    refine w_goto i_143_61 ?_
    exact (k1 h1)
  · intro h2
    refine w_push i_143_64 rfl ?_
    refine w_store (l1 := [.ref 134, UU, .int (bI tp), .int 0]) i_143_65 rfl (Nat.le_of_ble_eq_true rfl) rfl ?_
    exact (k2 h2)
theorem i_143_66 : ins 143 66 = some (.iload_n 3, 67, 3, 0, 0, 0) := rfl
theorem i_143_67 : ins 143 67 = some (.bipush 12, 69, 0, 0, 0, 12) := rfl
theorem i_143_69 : ins 143 69 = some (.if_icmp .ge 29, 72, 98, 0, 0, 0) := rfl
theorem i_143_72 : ins 143 72 = some (.aload_n 0, 73, 0, 0, 0, 0) := rfl
theorem i_143_73 : ins 143 73 = some (.getfield 150, 76, 7, 50, 0, 0) := rfl
theorem i_143_76 : ins 143 76 = some (.iload_n 3, 77, 3, 0, 0, 0) := rfl
theorem i_143_77 : ins 143 77 = some (.iload_n 2, 78, 2, 0, 0, 0) := rfl
theorem i_143_78 : ins 143 78 = some (.ifCond .eq 7, 81, 85, 0, 0, 0) := rfl
theorem i_143_81 : ins 143 81 = some (.iconst 0, 82, 0, 0, 0, 0) := rfl
theorem i_143_82 : ins 143 82 = some (.goto 9, 85, 91, 0, 0, 0) := rfl
theorem i_143_85 : ins 143 85 = some (.aload_n 0, 86, 0, 0, 0, 0) := rfl
theorem i_143_86 : ins 143 86 = some (.getfield 147, 89, 7, 49, 0, 0) := rfl
theorem i_143_89 : ins 143 89 = some (.iload_n 3, 90, 3, 0, 0, 0) := rfl
theorem i_143_90 : ins 143 90 = some (.iaload, 91, 0, 0, 0, 0) := rfl
theorem i_143_91 : ins 143 91 = some (.iastore, 92, 0, 0, 0, 0) := rfl
theorem i_143_92 : ins 143 92 = some (.iinc 3 1, 95, 3, 0, 0, 1) := rfl
theorem i_143_95 : ins 143 95 = some (.goto (-29), 98, 66, 0, 0, 0) := rfl
theorem i_143_98 : ins 143 98 = some (.return_, 99, 0, 0, 0, 0) := rfl
theorem S143_66 {Q : Ou → Prop} {M : Mem} {κ : Kp} (hκ : Rd κ) {k : Nat} (hk : k ≤ 12) {tp : Bool}
    (k1 : k < 12 → RT 143 (66, [.ref 134, UU, .int (bI tp), .int (nI (k + 1))], [], (stM M 175 k (if tp = true then 0 else (M 174 k))), κ) Q)
    (k2 : ¬ (k < 12) → Q (.inl none, M, κ))
    : RT 143 (66, [.ref 134, UU, .int (bI tp), .int (nI k)], [], M, κ) Q := by
  refine w_load i_143_66 rfl rfl ?_
  refine w_push i_143_67 rfl ?_
  refine w_if2n (k < 12) i_143_69 (cN_ge (a := k) (b := 12) (by omega) (by omega)) ?_ ?_
  · intro h1
    refine w_load i_143_72 rfl rfl ?_
    refine w_getR 175 i_143_73 hκ (⟨rfl, by decide⟩ : isOb 134 7) rfl rfl ?_
    refine w_load i_143_76 rfl rfl ?_
    refine w_load i_143_77 rfl rfl ?_
    have K2 : RT 143 (91, [.ref 134, UU, .int (bI tp), .int (nI k)], [.int (if tp = true then 0 else (M 174 k)), .int (nI k), .ref 175], M, κ) Q := by
      refine w_iastN (e := k) i_143_91 hκ (⟨rfl, rfl, by decide⟩ : isAr 175 12) (by omega) (by decide) ?_
      refine w_iincN (n := k) (l1 := [.ref 134, UU, .int (bI tp), .int (nI (k + 1))]) 1 i_143_92 rfl rfl ?_
      refine w_goto i_143_95 ?_
      exact (k1 h1)
    refine w_if0n (tp = true) i_143_78 cB_eq ?_ ?_
    · intro h3
      refine w_push i_143_81 rfl ?_
      refine w_goto i_143_82 ?_
      exact (by first | exact (K2) | (have K9 := K2; simp only [↓if_pos h3] at K9 ⊢; exact (K9)))
    · intro h4
      refine w_load i_143_85 rfl rfl ?_
      refine w_getR 174 i_143_86 hκ (⟨rfl, by decide⟩ : isOb 134 7) rfl rfl ?_
      refine w_load i_143_89 rfl rfl ?_
      refine w_ialdN (e := k) (v := (M 174 k)) i_143_90 hκ (⟨rfl, rfl, by decide⟩ : isAr 174 12) (by omega) (by decide) (rfl) ?_
      exact (by first | exact (K2) | (have K9 := K2; simp only [↓if_neg h4] at K9 ⊢; exact (K9)))
  · intro h5
    exact w_vret i_143_98 rfl (k2 h5)
variable {Q : Ou → Prop} {M M0 : Mem} {κ : Kp}
def frX (M0 M : Mem) : Prop := ∀ x j, ¬ (x = 134 ∧ (j = 0 ∨ j = 54)) → ¬ (x = 173 ∨ x = 174 ∨ x = 177) → M x j = M0 x j
def frV (M0 M : Mem) : Prop := ∀ x j, ¬ (x = 134 ∧ (j = 0 ∨ (53 ≤ j ∧ j ≤ 56))) → ¬ (172 ≤ x ∧ x ≤ 177) → M x j = M0 x j
theorem frX_R {M M' : Mem} (h : frR M M') : frX M M' := fun x j h1 h2 => h x j (fun z => h1 ⟨z.1, .inr z.2⟩) h2
theorem frX_tr {M M1 M' : Mem} (h : frX M M1) (h' : frX M1 M') : frX M M' := fun x j h1 h2 => (h' x j h1 h2).trans (h x j h1 h2)
theorem frV_X {M M' : Mem} (h : frX M M') : frV M M' := fun x j h1 h2 => h x j (by omega) (by omega)
theorem frV_tr {M M1 M' : Mem} (h : frV M M1) (h' : frV M1 M') : frV M M' := fun x j h1 h2 => (h' x j h1 h2).trans (h x j h1 h2)
/-- how a run ended, in the model -/
def MEn (M : Mem) (tu : Nat) (tr : Bool) (r : Rs) : Prop := M 134 53 = nI r.2.2.1 ∧ M 134 55 = nI tu ∧ M 134 56 = bI tr ∧ (∀ i, i < 64 → M 172 i = r.2.1 i) ∧ (∀ i, i < 64 → i < r.2.2.1 → M 176 i = r.2.2.2 i) ∧ ∀ i, i < 12 → M 175 i = if tr = true then 0 else r.1 i
theorem f143 (hκ : Rd κ) {r : Rs} {come : Nat} {tp : Bool} (hc : come ≤ 100) (hR : RMo M r) (K : ∀ M', frV M M' → MEn M' come tp r → M' 134 0 = M 134 0 → Q (.inl none, M', κ)) : RT 143 (0, entL 143 [.ref 134, .int (nI come), .int (bI tp)], [], M, κ) Q := by
  obtain ⟨r1, r2, r3, r4⟩ := hR
  refine S143_0 hκ (by omega) ?_
  have eb : (if tp = true then true else false) = tp := by cases tp <;> rfl
  rw [eb]
  refine loopI (n := 64) (fun k M1 => RT 143 (28, [.ref 134, UU, .int (bI tp), .int (nI k)], [], M1, κ) Q) (fun k M1 => frV M M1 ∧ M1 134 53 = nI r.2.2.1 ∧ M1 134 55 = nI come ∧ M1 134 56 = bI tp ∧ M1 134 0 = M 134 0 ∧ (∀ i, M1 173 i = M 173 i ∧ M1 174 i = M 174 i ∧ M1 177 i = M 177 i) ∧ (∀ i, i < k → M1 172 i = M 173 i ∧ M1 176 i = M 177 i)) (fun k M1 hk hI ih => ?_) (fun M1 hI => ?_) 0 _ (Nat.zero_le _) ?_
  · obtain ⟨i1, i2, i3, i4, i5, i6, i7⟩ := hI
    refine S143_28 hκ (by omega) (fun _ => ih _ ?_) (fun z => absurd (by omega) z)
    refine ⟨fun x j h1 h2 => (stM_o (by omega)).trans ((stM_o (by omega)).trans (i1 x j h1 h2)), (stM_o (by decide)).trans ((stM_o (by decide)).trans i2), (stM_o (by decide)).trans ((stM_o (by decide)).trans i3), (stM_o (by decide)).trans ((stM_o (by decide)).trans i4), (stM_o (by decide)).trans ((stM_o (by decide)).trans i5), fun i => ⟨(stM_o (by decide)).trans ((stM_o (by decide)).trans (i6 i).1), (stM_o (by decide)).trans ((stM_o (by decide)).trans (i6 i).2.1), (stM_o (by decide)).trans ((stM_o (by decide)).trans (i6 i).2.2)⟩, fun i hi => ?_⟩
    by_cases e : i = k
    · rw [e]
      exact ⟨(stM_o (by decide)).trans (stM_s.trans (i6 k).1), stM_s.trans (i6 k).2.2⟩
    · exact ⟨(stM_o (by decide)).trans ((stM_j e).trans (i7 i (by omega)).1), (stM_j e).trans ((stM_o (by decide)).trans (i7 i (by omega)).2)⟩
  · obtain ⟨i1, i2, i3, i4, i5, i6, i7⟩ := hI
    refine S143_28 hκ (Nat.le_refl _) (fun z => absurd z (Nat.lt_irrefl _)) (fun _ => ?_)
    refine loopI (n := 12) (fun k M2 => RT 143 (66, [.ref 134, UU, .int (bI tp), .int (nI k)], [], M2, κ) Q) (fun k M2 => (∀ x j, ¬ x = 175 → M2 x j = M1 x j) ∧ ∀ i, i < k → M2 175 i = if tp = true then 0 else M 174 i) (fun k M2 hk hJ ih => ?_) (fun M2 hJ => ?_) 0 _ (Nat.zero_le _) ⟨fun _ _ _ => rfl, fun i hi => absurd hi (Nat.not_lt_zero i)⟩
    · obtain ⟨j1, j2⟩ := hJ
      refine S143_66 hκ (by omega) (fun _ => ih _ ?_) (fun z => absurd (by omega) z)
      refine ⟨fun x j h => (stM_o h).trans (j1 x j h), fun i hi => ?_⟩
      by_cases e : i = k
      · rw [e]
        refine stM_s.trans ?_
        rw [j1 174 k (by decide), (i6 k).2.1]
      · exact (stM_j e).trans (j2 i (by omega))
    · obtain ⟨j1, j2⟩ := hJ
      refine S143_66 hκ (Nat.le_refl _) (fun z => absurd z (Nat.lt_irrefl _)) (fun _ => ?_)
      refine K M2 (fun x j h1 h2 => (j1 x j (by omega)).trans (i1 x j h1 h2)) ⟨(j1 _ _ (by decide)).trans i2, (j1 _ _ (by decide)).trans i3, (j1 _ _ (by decide)).trans i4, fun i hi => ?_, fun i hi ho => ?_, fun i hi => ?_⟩ ((j1 _ _ (by decide)).trans i5)
      · exact (j1 _ _ (by decide)).trans ((i7 i hi).1.trans (r4 i hi))
      · exact (j1 _ _ (by decide)).trans ((i7 i hi).2.trans (r2 i hi ho))
      · rw [j2 i hi, r3 i hi]
  · refine ⟨fun x j h1 h2 => ?_, stM_s.trans r1, (stM_j (by decide)).trans ((stM_j (by decide)).trans stM_s), (stM_j (by decide)).trans stM_s, (stM_j (by decide)).trans ((stM_j (by decide)).trans (stM_j (by decide))), fun i => ⟨(stM_o (by decide)).trans ((stM_o (by decide)).trans (stM_o (by decide))), (stM_o (by decide)).trans ((stM_o (by decide)).trans (stM_o (by decide))), (stM_o (by decide)).trans ((stM_o (by decide)).trans (stM_o (by decide)))⟩, fun i hi => absurd hi (Nat.not_lt_zero i)⟩
    by_cases e : x = 134
    · rw [e]
      exact (stM_j (by omega)).trans ((stM_j (by omega)).trans (stM_j (by omega)))
    · exact (stM_o e).trans ((stM_o e).trans (stM_o e))
section PM
variable {x n : Nat} {O : Op} {T cy : Int32}
/-- the passes of a block, the model -/
theorem p142 (hκ : Rd κ) (hx : x < 6) (hn : n ≤ 10) (hOk : Ook O n) {tn come : Nat} (ht : tn ≤ 100) (hT : ∀ a, a ≤ 100 → (nI a < T ↔ a < tn)) : ∀ t pa (M : Mem) (r : Rs), pa + t = tn → M 151 x = nI n → (∀ f, f < 6 → ∀ j, j < n → M (152 + f) (10 * x + j) = O f j) → RMo M r → r.2.2.1 + 10 * t ≤ 4000 →
    (KA : ∀ a k r', ptS O n t pa r = (some (a, k), r') → ∀ M', frR M M' → RMo M' r' → RT 142 (210, [.ref 134, .int cy, .int (nI come), .int (nI x), .int (nI ((10 * x) + k)), .int T, .int (nI a), UU], [], M', κ) Q) →
    (KB : ∀ r', ptS O n t pa r = (none, r') → ∀ M', frR M M' → RMo M' r' → RT 142 (210, [.ref 134, .int cy, .int (nI come), .int (nI x), .int (-1), .int T, .int (nI tn), UU], [], M', κ) Q) →
    RT 142 (173, [.ref 134, .int cy, .int (nI come), .int (nI x), .int (-1), .int T, .int (nI pa), UU], [], M, κ) Q := fun t => by
  induction t with
  | zero =>
    intro pa M r hj hc hO hR hoc KA KB
    have e : pa = tn := hj
    refine S142_173 hκ hx (by omega) (fun z => absurd ((hT pa (by omega)).mp z) (by omega)) (fun z => absurd ((hT pa (by omega)).mp z) (by omega)) (fun _ => ?_)
    rw [e]
    exact KB r rfl M (fun _ _ _ _ => rfl) hR
  | succ t ih =>
    intro pa M r hj hc hO hR hoc KA KB
    have hlt := (hT pa (by omega)).mpr (by omega)
    refine S142_173 hκ hx (by omega) (fun _ _ => ?_) (fun _ z => absurd (by decide) z) (fun z => absurd hlt z)
    have hoc' := (psS_oc (O := O) n 0 r).1
    refine f140 hκ hx hn hOk hc hO hR (by omega) (fun k r' e1 M' hf hR' => ?_) (fun r' e1 M' hf hR' => ?_)
    · refine ⟨_, _, _, rfl, w_weak (lle_s (lle_s (lle_s (lle_s (lle_u (lle_s (lle_s (lle_s lle_n)))))))) (S142_190 (ro := pa) hκ hx (by omega) ?_)⟩
      have hk := ((psS_oc (O := O) n 0 r).2 k (by rw [e1])).2
      have hneg : ¬ nI (10 * x + k) < 0 := by
        rw [ltI, nI_toInt (by omega), c0]
        omega
      have eb : nI pa + bI (if nI (10 * x + k) < 0 then true else false) = nI pa := by
        rw [if_neg hneg]
        exact nI_add pa 0
      rw [eb]
      have hE : ptS O n (t + 1) pa r = (some (pa, k), r') := by rw [ptS, e1]
      exact S142_173 hκ hx (by omega) (fun _ z => absurd z hneg) (fun _ _ => KA pa k r' hE M' hf hR') (fun z => absurd hlt z)
    · refine ⟨_, _, _, rfl, w_weak (lle_s (lle_s (lle_s (lle_s (lle_u (lle_s (lle_s (lle_s lle_n)))))))) (S142_190 (ro := pa) hκ hx (by omega) ?_)⟩
      have eb : nI pa + bI (if (-1 : Int32) < 0 then true else false) = nI (pa + 1) := nI_add pa 1
      rw [eb]
      rw [e1] at hoc'
      have hoc2 : r'.2.2.1 ≤ r.2.2.1 + n := hoc'
      have eP : ptS O n (t + 1) pa r = ptS O n t (pa + 1) r' := by rw [ptS, e1]
      exact ih (pa + 1) M' r' (by omega) ((hf 151 x (by omega) (by omega)).trans hc) (fun f hf6 j hj => (hf _ _ (by omega) (by omega)).trans (hO f hf6 j hj)) hR' (by omega) (fun a k r2 q2 M2 hf2 hR2 => KA a k r2 (eP.trans q2) M2 (frR_tr hf hf2) hR2) (fun r2 q2 M2 hf2 hR2 => KB r2 (eP.trans q2) M2 (frR_tr hf hf2) hR2)
end PM
section RM
variable {v : Nat → Int32} {f : Nat → Nat} {nb : Nat} {s : Ss} {qq : Nat → Pq} {mp : Mp}
/-- what a run of the model stands on -/
def MY (v : Nat → Int32) (f : Nat → Nat) (nb : Nat) (s : Ss) (qq : Nat → Pq) (mp : Mp) (M : Mem) : Prop := MRl v f nb M s ∧ MMp M mp ∧ ∀ x, x < nb → s.2.2.2.1 x = false → PN M (s.1 x) (s.2.2.1 x) (LtO mp (s.2.2.2.2 x)) (19 + 18 * x) (qq x) ∧ PM M (s.2.2.1 x) x
theorem MY_fr {M' : Mem} (h6 : nb ≤ 6) (hf : frV M M') (h : MY v f nb s qq mp M) : MY v f nb s qq mp M' := by
  obtain ⟨h1, ⟨m1, m2, m3, m4, m5, m6⟩, h3⟩ := h
  refine ⟨fun z hz => ?_, ⟨(hf _ _ (by omega) (by omega)).trans m1, (hf _ _ (by omega) (by omega)).trans m2, (hf _ _ (by omega) (by omega)).trans m3, (hf _ _ (by omega) (by omega)).trans m4, (hf _ _ (by omega) (by omega)).trans m5, (hf _ _ (by omega) (by omega)).trans m6⟩, fun x hx hg => ⟨PN_fr (pl_of (by omega)) (fun a j _ h => hf a j (by omega) (by omega)) (h3 x hx hg).1, ?_⟩⟩
  · obtain ⟨a0, a1, a2, a3, a4, a5, a6⟩ := h1 z hz
    exact ⟨(hf _ _ (by omega) (by omega)).trans a0, (hf _ _ (by omega) (by omega)).trans a1, (hf _ _ (by omega) (by omega)).trans a2, (hf _ _ (by omega) (by omega)).trans a3, (hf _ _ (by omega) (by omega)).trans a4, (hf _ _ (by omega) (by omega)).trans a5, fun q hq j hj => (hf _ _ (by omega) (by omega)).trans (a6 q hq j hj)⟩
  · obtain ⟨w1, w2, w3, w4, w5⟩ := (h3 x hx hg).2
    refine ⟨fun k hk => ?_, ?_, ?_, ?_, ?_⟩
    · obtain ⟨b1, b2, b3⟩ := w1 k hk
      exact ⟨(hf _ _ (by omega) (by omega)).trans (b1.trans (hf _ _ (by omega) (by omega)).symm), (hf _ _ (by omega) (by omega)).trans (b2.trans (hf _ _ (by omega) (by omega)).symm), (hf _ _ (by omega) (by omega)).trans (b3.trans (hf _ _ (by omega) (by omega)).symm)⟩
    · exact (hf _ _ (by omega) (by omega)).trans (w2.trans (hf _ _ (by omega) (by omega)).symm)
    · exact (hf _ _ (by omega) (by omega)).trans (w3.trans (hf _ _ (by omega) (by omega)).symm)
    · exact (hf _ _ (by omega) (by omega)).trans (w4.trans (hf _ _ (by omega) (by omega)).symm)
    · exact (hf _ _ (by omega) (by omega)).trans (w5.trans (hf _ _ (by omega) (by omega)).symm)
/-- the end of a run of the model -/
theorem e142 (hκ : Rd κ) {come : Nat} {xx tr cy : Int32} {r : Rs} {tp : Bool} (hc : come ≤ 100) (hR : RMo M r) (htp : (if tr < 0 then false else true) = tp) (hx : xx < 0 ∨ (¬ xx < 0 ∧ ¬ tr < 0)) (K : ∀ M', frV M M' → MEn M' come tp r → M' 134 0 = M 134 0 → Q (.inl (some (.int cy)), M', κ)) : RT 142 (86, [.ref 134, .int cy, .int (nI come), .int xx, .int tr, UU, UU, UU], [], M, κ) Q := by
  refine E142_86 hκ (fun _ => ?_) (fun a b => hx.elim (fun z => absurd z a) (fun z => absurd b z.2))
  rw [htp]
  exact f143 hκ hc hR (fun M' a b c => ⟨_, _, _, rfl, w_weak (lle_u (lle_s (lle_u (lle_u (lle_u (lle_s (lle_s (lle_s lle_n)))))))) (S142_365 hκ (K M' a b c))⟩)
theorem mI {T : Int32} : (if T < 1 then (1 : Int32) else T).toInt = max T.toInt 1 := by
  split
  · rename_i h
    rw [ltI, t1] at h
    rw [t1]
    omega
  · rename_i h
    rw [ltI, t1] at h
    omega
theorem i142 (hκ : Rd κ) (hmp : MpOk mp) (h6 : nb ≤ 6) (hs : SIv v f nb s) : ∀ d x tu cy (M : Mem) (r : Rs), 100 ≤ tu + d → x < nb → s.2.2.2.1 x = false → MY v f nb s qq mp M → RMo M r → M 134 0 = 0 → tu ≤ 100 → r.2.2.1 ≤ 10 * tu →
    (KA : rnS v f s qq d x tu cy r = none → ∀ M', frX M M' → M' 134 0 = nI 2 → Q (.inl (some (.int 0)), M', κ)) →
    (KB : ∀ c tu' tr r', rnS v f s qq d x tu cy r = some (c, tu', tr, r') → ∀ M', frV M M' → MEn M' tu' tr r' → M' 134 0 = 0 → Q (.inl (some (.int (nI c))), M', κ)) →
    RT 142 (86, [.ref 134, .int (nI cy), .int (nI tu), .int (nI x), .int (-1), UU, UU, UU], [], M, κ) Q := fun d => by
  induction d with
  | zero =>
    intro x tu cy M r hd hx hg hC hR h0 htu hoc KA KB
    obtain ⟨b0, b1, b2, b3, b4, b5, b6⟩ := hC.1 x hx
    obtain ⟨s1, s2, s3, s4, s5, s6, s7, s8⟩ := hs.1 x hx
    have hv := v12 s8
    have hK : ∀ M', M' = stM M 134 0 2 → Q (.inl (some (.int 0)), M', κ) := fun M' e => KA rfl M' (fun x j h1 h2 => by
      rw [e]
      by_cases ex : x = 134
      · rw [ex]
        exact stM_j (fun z => h1 ⟨ex, .inl z⟩)
      · exact stM_o ex) (by rw [e]; exact stM_s)
    refine S142_86 hκ (by omega) b0 b1 (fun _ _ => hv.1) (fun z => absurd z (by omega)) (fun _ => S142_122 hκ htu (by omega) (fun _ => hK _ rfl) (fun y z => ?_))
    refine absurd ?_ z
    generalize (if s.1 x = 3 then M 174 (v x).toNatClampNeg else 1) = T at y ⊢
    rw [ltI, show (100 : Int32).toInt = 100 by decide] at y ⊢
    rw [l_add (by rw [nI_toInt (by omega)]; omega) (by rw [mI]; omega), nI_toInt (by omega), mI]
    omega
  | succ d ih =>
    intro x tu cy M r hd hx hg hC hR h0 htu hoc KA KB
    obtain ⟨b0, b1, b2, b3, b4, b5, b6⟩ := hC.1 x hx
    obtain ⟨s1, s2, s3, s4, s5, s6, s7, s8⟩ := hs.1 x hx
    have hv := v12 s8
    have hx6 : x < 6 := by omega
    have eT : (if s.1 x = 3 then M 174 (v x).toNatClampNeg else 1) = tiS v s x r.1 := by
      unfold tiS
      split
      · rw [hR.2.2.1 _ hv.2]
      · rfl
    have hT3 : ¬ s.1 x = 3 → tiS v s x r.1 = 1 := fun h => if_neg h
    refine S142_86 hκ hx6 b0 b1 (fun _ _ => hv.1) (fun z => absurd z (by omega)) (fun _ => ?_)
    rw [eT]
    have eR : rnS v f s qq (d + 1) x tu cy r = (if 100 < (tu : Int) + max (tiS v s x r.1).toInt 1 then none else match ptS (s.2.2.2.2 x) (s.2.2.1 x) (tiS v s x r.1).toInt.toNat 0 r with
        | (some (pa, k), r') => some (cy + cuN (qq x) pa k, tu + max (tiS v s x r.1).toInt.toNat 1, true, r')
        | (none, r') => if s.1 x = 0 then some (cy + coN (qq x) (tiS v s x r.1).toInt.toNat, tu + max (tiS v s x r.1).toInt.toNat 1, false, r') else rnS v f s qq d (nxS v f s x r'.1) (tu + max (tiS v s x r.1).toInt.toNat 1) (cy + coN (qq x) (tiS v s x r.1).toInt.toNat) r') := by
      rw [rnS]
      rfl
    generalize tiS v s x r.1 = T at eR hT3
    have hor : 100 < T ∨ (¬ (100 < T) ∧ 100 < (nI tu + (if T < 1 then 1 else T))) ↔ 100 < (tu : Int) + max T.toInt 1 := by
      by_cases q : 100 < T
      · refine ⟨fun _ => ?_, fun _ => .inl q⟩
        rw [ltI, show (100 : Int32).toInt = 100 by decide] at q
        omega
      · have q' := q
        rw [ltI, show (100 : Int32).toInt = 100 by decide] at q'
        have e : (nI tu + (if T < 1 then 1 else T)).toInt = tu + max T.toInt 1 := by
          rw [l_add (by rw [nI_toInt (by omega)]; omega) (by rw [mI]; omega), nI_toInt (by omega), mI]
        rw [ltI (a := 100) (b := nI tu + (if T < 1 then 1 else T)), e, show (100 : Int32).toInt = 100 by decide]
        exact ⟨fun z => z.elim (fun y => absurd y q) (fun y => y.2), fun z => .inr ⟨q, z⟩⟩
    refine S142_122 hκ htu hx6 (fun a => ?_) (fun a b => ?_)
    · refine KA (eR.trans (if_pos (hor.mp a))) _ (fun x j h1 h2 => ?_) stM_s
      by_cases ex : x = 134
      · rw [ex]
        exact stM_j (fun z => h1 ⟨ex, .inl z⟩)
      · exact stM_o ex
    · have hno : ¬ 100 < (tu : Int) + max T.toInt 1 := fun z => (hor.mpr z).elim a (fun y => b y.2)
      have eN : nI tu + (if T < 1 then 1 else T) = nI (tu + max T.toInt.toNat 1) := by
        apply Int32.toInt_inj.mp
        rw [l_add (by rw [nI_toInt (by omega)]; omega) (by rw [mI]; omega), nI_toInt (by omega), mI, nI_toInt (by omega)]
        omega
      rw [eN]
      rw [if_neg hno] at eR
      have hT : ∀ a, a ≤ 100 → (nI a < T ↔ a < T.toInt.toNat) := fun a ha => by
        rw [ltI, nI_toInt (by omega)]
        omega
      have hcase : (T < 1 ∧ T.toInt.toNat = 0 ∧ s.1 x = 3) ∨ (T = nI T.toInt.toNat ∧ 1 ≤ T.toInt.toNat) := by
        by_cases q : T < 1
        · have q' := q
          rw [ltI, t1] at q'
          refine .inl ⟨q, by omega, Classical.byContradiction fun z => ?_⟩
          rw [hT3 z, t1] at q'
          omega
        · rw [ltI, t1] at q
          refine .inr ⟨?_, by omega⟩
          apply Int32.toInt_inj.mp
          rw [nI_toInt (by omega)]
          omega
      have hone : ¬ s.1 x = 3 → T.toInt.toNat = 1 := fun z => by
        rw [hT3 z, t1]
        rfl
      have ht : T.toInt.toNat ≤ 100 := by omega
      have htu' : tu + max T.toInt.toNat 1 ≤ 100 := by omega
      have htl : tu + 1 ≤ tu + max T.toInt.toNat 1 := by omega
      have hoc2 := ptS_oc (O := s.2.2.2.2 x) s5 T.toInt.toNat 0 r
      generalize T.toInt.toNat = tn at eR hT hcase hone ht htu' hoc2 htl
      have hoc4 : r.2.2.1 + 10 * tn ≤ 4000 := by omega
      have hoc5 : ∀ r' : Rs, r'.2.2.1 ≤ r.2.2.1 + 10 * tn → r'.2.2.1 ≤ 10 * (tu + max tn 1) := fun r' h => by omega
      generalize tu + max tn 1 = tu2 at eR htu' htl hoc5
      obtain ⟨hP, hPM⟩ := hC.2.2 x hx hg
      refine p142 hκ hx6 s5 s6 ht hT tn 0 M r (Nat.zero_add _) b4 b6 hR hoc4 (fun pa k r' e1 M' hf hR' => ?_) (fun r' e1 M' hf hR' => ?_)
      · have hC2 := MY_fr h6 (frV_X (frX_R hf)) hC
        obtain ⟨g0, g1, g2, g3, g4, g5, g6⟩ := hC2.1 x hx
        obtain ⟨hP', hPM'⟩ := hC2.2.2 x hx hg
        obtain ⟨w1, w2, w3, w4, w5⟩ := hPM'
        rw [e1] at hoc2 eR
        have hk := hoc2.2 pa k rfl
        have h0' : M' 134 0 = 0 := (hf _ _ (by omega) (by omega)).trans h0
        have hneg : ¬ nI (10 * x + k) < 0 := by
          rw [ltI, nI_toInt (by omega), c0]
          omega
        refine T142_210 hκ hx6 (by omega) hP'.2.2.2.2.1.2.1 hP'.2.2.2.2.1.1 (w4.trans hP'.2.1) (w2.trans hP'.1) (w1 k hk.2.2).2.1 (w1 k hk.2.2).2.2 (by omega) (fun z => absurd z (by omega)) (fun _ => ?_)
        have ec : nI cy + (1 + (nI (pa * (if (if 0 < (qq x).2.1 then true else false) = true then (qq x).2.1 else (qq x).1)) + (if (if 0 < (qq x).2.1 then true else false) = true then M' (19 + 18 * x + 3) k else M' (19 + 18 * x + 2) k))) = nI (cy + cuN (qq x) pa k) := by
          unfold cuN
          by_cases q : (qq x).2.1 = 0
          · rw [if_neg (show ¬ 0 < (qq x).2.1 by omega), if_neg (by decide), if_neg (by decide), if_pos q, if_pos q, (hP'.2.2.2.2.2.1 k hk.2.2).1, nI_add, show (1 : Int32) = nI 1 from rfl, nI_add, nI_add]
            exact congrArg nI (by omega)
          · rw [if_pos (show 0 < (qq x).2.1 by omega), if_pos rfl, if_pos rfl, if_neg q, if_neg q, (hP'.2.2.2.2.2.2.1 (by omega) k hk.2.2).1, nI_add, show (1 : Int32) = nI 1 from rfl, nI_add, nI_add]
            exact congrArg nI (by omega)
        rw [ec]
        refine S142_291 hκ hx6 g0 g1 g2 g3 (fun _ _ => hv.1) ?_
        refine e142 (tp := true) hκ htu' hR' (if_neg hneg) ?_ (fun M2 q1 q2 q3 => KB _ _ _ _ eR M2 (frV_tr (frV_X (frX_R hf)) q1) q2 (q3.trans h0'))
        by_cases q : (if s.1 x = 0 then (-1 : Int32) else (if (forks (s.1 x)) = true then (if (M' 174 (v x).toNatClampNeg) = 0 then (nI (f x)) else (nI (s.2.1 x))) else (nI (s.2.1 x)))) < 0
        · exact .inl q
        · exact .inr ⟨q, hneg⟩
      · have hC2 := MY_fr h6 (frV_X (frX_R hf)) hC
        obtain ⟨g0, g1, g2, g3, g4, g5, g6⟩ := hC2.1 x hx
        obtain ⟨hP', hPM'⟩ := hC2.2.2 x hx hg
        rw [e1] at hoc2 eR
        have hoc3 : r'.2.2.1 ≤ r.2.2.1 + 10 * tn := hoc2.1
        have h0' : M' 134 0 = 0 := (hf _ _ (by omega) (by omega)).trans h0
        refine S142_210 hκ hx6 hP'.2.2.2.2.1.2.1 (hPM'.2.2.2.1.trans hP'.2.1) (by omega) ⟨_, c141 hκ hx6 s5 hP' hPM' hC2.2.1 g4 g0 g6 ht hcase hone, _, _, _, rfl, ?_⟩
        refine S142_240 hκ hx6 (by omega) ?_
        have hc1 := coN_rng hP' ht
        have ec : nI cy + (1 + nI (coN (qq x) tn - 1)) = nI (cy + coN (qq x) tn) := by
          rw [show (1 : Int32) = nI 1 from rfl, nI_add, nI_add]
          exact congrArg nI (by omega)
        rw [ec]
        refine S142_291 hκ hx6 g0 g1 g2 g3 (fun _ _ => hv.1) ?_
        by_cases q : s.1 x = 0
        · rw [if_pos q]
          exact e142 (tp := false) hκ htu' hR' rfl (.inl (by decide)) (fun M2 q1 q2 q3 => KB _ _ _ _ (eR.trans (if_pos q)) M2 (frV_tr (frV_X (frX_R hf)) q1) q2 (q3.trans h0'))
        · rw [if_neg q]
          have eX : (if (forks (s.1 x)) = true then (if (M' 174 (v x).toNatClampNeg) = 0 then (nI (f x)) else (nI (s.2.1 x))) else (nI (s.2.1 x))) = nI (nxS v f s x r'.1) := by
            rw [hR'.2.2.1 _ hv.2]
            unfold forks nxS
            by_cases q2 : s.1 x = 2
            · rw [if_pos q2, if_pos rfl, if_pos q2]
              split <;> rfl
            · rw [if_neg q2, if_neg (by decide), if_neg q2]
          rw [eX]
          have hnx := nx_ok hs hx hg q r'.1
          have eR' := eR.trans (if_neg q)
          exact ih _ _ _ M' r' (by omega) hnx.1 hnx.2 hC2 hR' h0' htu' (hoc5 r' hoc3) (fun z M2 hf2 => KA (eR'.trans z) M2 (frX_tr (frX_R hf) hf2)) (fun c tu3 tr r2 z M2 hf2 => KB c tu3 tr r2 (eR'.trans z) M2 (frV_tr (frV_X (frX_R hf)) hf2))
/-- run, the model -/
theorem f142 (hκ : Rd κ) (hmp : MpOk mp) {cf : Bool} (hcf : M 134 19 = bI cf) (h6 : nb ≤ 6) (h0 : ¬ nb = 0) (hs : SIv v f nb s) (hC : cf = true → MY v f nb s qq mp M) {me : Nat → Int32} (hme : ∀ i, i < 64 → M 172 i = me i)
    (K1 : cf = false → Q (.inl (some (.int 0)), stM M 134 0 (nI 1), κ))
    (K2 : cf = true → rnS v f s qq 100 0 0 0 (fun _ => 0, me, 0, fun _ => 0) = none → ∀ M', frX M M' → M' 134 0 = nI 2 → Q (.inl (some (.int 0)), M', κ))
    (K3 : cf = true → ∀ c tu' tr r', rnS v f s qq 100 0 0 0 (fun _ => 0, me, 0, fun _ => 0) = some (c, tu', tr, r') → ∀ M', frV M M' → MEn M' tu' tr r' → M' 134 0 = nI 0 → Q (.inl (some (.int (nI c))), M', κ)) : RT 142 (0, entL 142 [.ref 134], [], M, κ) Q := by
  cases cf with
  | false => exact S142_0 hκ hcf (fun _ => K1 rfl) (fun z => absurd (by decide) z)
  | true =>
    refine S142_0 hκ hcf (fun z => absurd z (by decide)) (fun _ => ?_)
    have hM0 : frX M (stM M 134 0 (bI (if true = true then false else true))) := fun x j h1 h2 => by
      by_cases ex : x = 134
      · rw [ex]
        exact stM_j (fun z => h1 ⟨ex, .inl z⟩)
      · exact stM_o ex
    refine loopI (n := 64) (fun k M1 => RT 142 (27, [.ref 134, .int (nI k), UU, UU, UU, UU, UU, UU], [], M1, κ) Q) (fun k M1 => frX M M1 ∧ M1 134 0 = 0 ∧ ∀ i, i < k → M1 173 i = me i) (fun k M1 hk hI ih => ?_) (fun M1 hI => ?_) 0 _ (Nat.zero_le _) ⟨hM0, stM_s, fun i hi => absurd hi (Nat.not_lt_zero i)⟩
    · obtain ⟨i1, i2, i3⟩ := hI
      refine S142_27 hκ (by omega) (fun _ => ih _ ?_) (fun z => absurd (by omega) z)
      refine ⟨fun x j h1 h2 => (stM_o (by omega)).trans (i1 x j h1 h2), (stM_o (by decide)).trans i2, fun i hi => ?_⟩
      by_cases e : i = k
      · rw [e]
        exact stM_s.trans ((i1 172 k (by omega) (by omega)).trans (hme k (by omega)))
      · exact (stM_j e).trans (i3 i (by omega))
    · obtain ⟨i1, i2, i3⟩ := hI
      refine S142_27 hκ (Nat.le_refl _) (fun z => absurd z (Nat.lt_irrefl _)) (fun _ => ?_)
      refine loopI (n := 12) (fun k M1 => RT 142 (53, [.ref 134, .int (nI k), UU, UU, UU, UU, UU, UU], [], M1, κ) Q) (fun k M1 => frX M M1 ∧ M1 134 0 = 0 ∧ (∀ i, i < 64 → M1 173 i = me i) ∧ ∀ i, i < k → M1 174 i = 0) (fun k M2 hk hJ ih => ?_) (fun M2 hJ => ?_) 0 _ (Nat.zero_le _) ⟨i1, i2, i3, fun i hi => absurd hi (Nat.not_lt_zero i)⟩
      · obtain ⟨j1, j2, j3, j4⟩ := hJ
        refine S142_53 hκ (by omega) (fun _ => ih _ ?_) (fun z => absurd (by omega) z)
        refine ⟨fun x j h1 h2 => (stM_o (by omega)).trans (j1 x j h1 h2), (stM_o (by decide)).trans j2, fun i hi => (stM_o (by decide)).trans (j3 i hi), fun i hi => ?_⟩
        by_cases e : i = k
        · rw [e]
          exact stM_s
        · exact (stM_j e).trans (j4 i (by omega))
      · obtain ⟨j1, j2, j3, j4⟩ := hJ
        refine S142_53 hκ (Nat.le_refl _) (fun z => absurd z (Nat.lt_irrefl _)) (fun _ => ?_)
        have hf3 : frX M (stM M2 134 54 0) := fun x j h1 h2 => by
          by_cases ex : x = 134
          · rw [ex]
            refine (stM_j (fun z => h1 ⟨ex, .inr z⟩)).trans ?_
            rw [ex] at h1
            exact j1 134 j h1 (by omega)
          · exact (stM_o ex).trans (j1 x j h1 h2)
        exact i142 hκ hmp h6 hs 100 0 0 0 _ (fun _ => 0, me, 0, fun _ => 0) (by omega) (by omega) hs.2.2 (MY_fr h6 (frV_X hf3) (hC rfl)) ⟨stM_s, fun i _ h => absurd h (Nat.not_lt_zero i), fun i hi => (stM_o (by decide)).trans (j4 i hi), fun i hi => (stM_o (by decide)).trans (j3 i hi)⟩ ((stM_j (by decide)).trans j2) (by omega) (Nat.zero_le _) (fun z M' hf hz => K2 rfl z M' (frX_tr hf3 hf) hz) (fun c tu tr r z M' hf hE hz => K3 rfl c tu tr r z M' (frV_tr (frV_X hf3) hf) hE hz)
end RM
end P_51_runm
