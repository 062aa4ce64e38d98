/-! bundle, on both sides -/
section P_57_pack
theorem i_78_5 : ins 78 5 = some (.aload_n 0, 6, 0, 0, 0, 0) := rfl
theorem i_78_6 : ins 78 6 = some (.getfield 27, 9, 6, 3, 0, 0) := rfl
theorem i_78_9 : ins 78 9 = some (.iload_n 1, 10, 1, 0, 0, 0) := rfl
theorem i_78_10 : ins 78 10 = some (.aaload, 11, 0, 0, 0, 0) := rfl
theorem i_78_11 : ins 78 11 = some (.astore 4, 13, 4, 0, 0, 0) := rfl
theorem i_78_13 : ins 78 13 = some (.iload_n 2, 14, 2, 0, 0, 0) := rfl
theorem i_78_14 : ins 78 14 = some (.ifCond .lt 24, 17, 38, 0, 0, 0) := rfl
theorem i_78_17 : ins 78 17 = some (.iload_n 2, 18, 2, 0, 0, 0) := rfl
theorem i_78_18 : ins 78 18 = some (.iload_n 3, 19, 3, 0, 0, 0) := rfl
theorem i_78_19 : ins 78 19 = some (.ifCond .eq 11, 22, 30, 0, 0, 0) := rfl
theorem i_78_22 : ins 78 22 = some (.aload 4, 24, 4, 0, 0, 0) := rfl
theorem i_78_24 : ins 78 24 = some (.getfield 169, 27, 5, 2, 0, 0) := rfl
theorem i_78_27 : ins 78 27 = some (.goto 8, 30, 35, 0, 0, 0) := rfl
theorem i_78_30 : ins 78 30 = some (.aload 4, 32, 4, 0, 0, 0) := rfl
theorem i_78_32 : ins 78 32 = some (.getfield 163, 35, 5, 0, 0, 0) := rfl
theorem i_78_35 : ins 78 35 = some (.if_icmp .lt 11, 38, 46, 0, 0, 0) := rfl
theorem i_78_38 : ins 78 38 = some (.new 120, 41, 2, 1, 0, 0) := rfl
theorem i_78_46 : ins 78 46 = some (.iload_n 3, 47, 3, 0, 0, 0) := rfl
theorem i_78_47 : ins 78 47 = some (.ifCond .eq 28, 50, 75, 0, 0, 0) := rfl
theorem i_78_50 : ins 78 50 = some (.aload 4, 52, 4, 0, 0, 0) := rfl
theorem i_78_52 : ins 78 52 = some (.aload_n 0, 53, 0, 0, 0, 0) := rfl
theorem i_78_53 : ins 78 53 = some (.getfield 22, 56, 6, 2, 0, 0) := rfl
theorem i_78_56 : ins 78 56 = some (.iload_n 1, 57, 1, 0, 0, 0) := rfl
theorem i_78_57 : ins 78 57 = some (.aaload, 58, 0, 0, 0, 0) := rfl
theorem i_78_58 : ins 78 58 = some (.aload 4, 60, 4, 0, 0, 0) := rfl
theorem i_78_60 : ins 78 60 = some (.getfield 196, 63, 5, 7, 0, 0) := rfl
theorem i_78_63 : ins 78 63 = some (.aload 4, 65, 4, 0, 0, 0) := rfl
theorem i_78_65 : ins 78 65 = some (.getfield 169, 68, 5, 2, 0, 0) := rfl
theorem i_78_68 : ins 78 68 = some (.iload_n 2, 69, 2, 0, 0, 0) := rfl
theorem i_78_69 : ins 78 69 = some (.invokevirtual 199, 72, 61, 0, 5, 0) := rfl
theorem i_78_75 : ins 78 75 = some (.aload 4, 77, 4, 0, 0, 0) := rfl
theorem i_78_77 : ins 78 77 = some (.aload_n 0, 78, 0, 0, 0, 0) := rfl
theorem i_78_78 : ins 78 78 = some (.getfield 22, 81, 6, 2, 0, 0) := rfl
theorem i_78_81 : ins 78 81 = some (.iload_n 1, 82, 1, 0, 0, 0) := rfl
theorem i_78_82 : ins 78 82 = some (.aaload, 83, 0, 0, 0, 0) := rfl
theorem i_78_83 : ins 78 83 = some (.aload 4, 85, 4, 0, 0, 0) := rfl
theorem i_78_85 : ins 78 85 = some (.getfield 193, 88, 5, 6, 0, 0) := rfl
theorem i_78_88 : ins 78 88 = some (.aload 4, 90, 4, 0, 0, 0) := rfl
theorem i_78_90 : ins 78 90 = some (.getfield 163, 93, 5, 0, 0, 0) := rfl
theorem i_78_93 : ins 78 93 = some (.iload_n 2, 94, 2, 0, 0, 0) := rfl
theorem i_78_94 : ins 78 94 = some (.invokevirtual 199, 97, 61, 0, 5, 0) := rfl
theorem S78_5 {Q : Ou → Prop} {M : Mem} {κ : Kp} (hκ : Rd κ) {x len ii : Nat} (hx : x < 6) (hl8 : len ≤ 80) (hi8 : ii ≤ 80) (hlen : M (19 + 18 * x) 0 = nI len) (hii : M (19 + 18 * x) 2 = nI ii) {rr : Int32} {md : Bool}
    (k1 : ((rr < 0) ∨ ((¬ (rr < 0)) ∧ (¬ (rr < (nI (if md = true then ii else len)))))) → Q (.inr 2, M, (κ.1, κ.2.1, κ.2.2.1, kN κ, kC κ + 1, kU κ + 6)))
    (k2 : ¬ (rr < 0) → rr < (nI (if md = true then ii else len)) → md = true → RT 61 (0, entL 61 [.ref (19 + 18 * x), .ref (12 + 18 * x), .ref ((19 + 18 * x) + 3), .int (nI ii), .int rr], [], M, κ) (fun o => ∃ v M1 κ1, o = (.inl v, M1, κ1) ∧ RT 78 (72, [.ref 0, .int (nI x), .int rr, .int (bI md), .ref (19 + 18 * x)], v.toList ++ [], M1, κ1) Q))
    (k3 : ¬ (rr < 0) → rr < (nI (if md = true then ii else len)) → ¬ (md = true) → RT 61 (0, entL 61 [.ref (19 + 18 * x), .ref (12 + 18 * x), .ref ((19 + 18 * x) + 2), .int (nI len), .int rr], [], M, κ) (fun o => ∃ v M1 κ1, o = (.inl v, M1, κ1) ∧ RT 78 (97, [.ref 0, .int (nI x), .int rr, .int (bI md), .ref (19 + 18 * x)], v.toList ++ [], M1, κ1) Q))
    : RT 78 (5, [.ref 0, .int (nI x), .int rr, .int (bI md), UU], [], M, κ) Q := by
  refine w_load i_78_5 rfl rfl ?_
  refine w_getR 4 i_78_6 hκ (⟨rfl, by decide⟩ : isOb 0 6) rfl rfl ?_
  refine w_load i_78_9 rfl rfl ?_
  refine w_aaldN (e := x) (19 + 18 * x) i_78_10 hκ (⟨by decide, by decide⟩ : (kd 4 = 22 ∨ kd 4 = 23) ∧ 4 < 180) (by omega) rfl ?_
  refine w_store (l1 := [.ref 0, .int (nI x), .int rr, .int (bI md), .ref (19 + 18 * x)]) i_78_11 rfl (Nat.le_of_ble_eq_true rfl) rfl ?_
  refine w_load i_78_13 rfl rfl ?_
  have K1 : ((rr < 0) ∨ ((¬ (rr < 0)) ∧ (¬ (rr < (nI (if md = true then ii else len)))))) → RT 78 (38, [.ref 0, .int (nI x), .int rr, .int (bI md), .ref (19 + 18 * x)], [], M, κ) Q := by
    intro h2
    exact w_throw i_78_38 rfl hκ (by decide) rfl (Nat.le_of_ble_eq_true rfl) (k1 h2)
  refine w_if0 (rr < 0) i_78_14 cI0_lt ?_ ?_
  · intro h3
    exact (by first | exact (K1 (.inl h3)) | (have K9 := K1 (.inl h3); simp only [↓if_pos h3] at K9 ⊢; exact (K9)))
  · intro h4
    refine w_load i_78_17 rfl rfl ?_
    refine w_load i_78_18 rfl rfl ?_
    have K5 : RT 78 (35, [.ref 0, .int (nI x), .int rr, .int (bI md), .ref (19 + 18 * x)], [.int (nI (if md = true then ii else len)), .int rr], M, κ) Q := by
      refine w_if2 (rr < (nI (if md = true then ii else len))) i_78_35 cI_lt ?_ ?_
      · intro h6
        refine w_load i_78_46 rfl rfl ?_
        refine w_if0n (md = true) i_78_47 cB_eq ?_ ?_
        · intro h7
          refine w_load i_78_50 rfl rfl ?_
          refine w_load i_78_52 rfl rfl ?_
          refine w_getR 3 i_78_53 hκ (⟨rfl, by decide⟩ : isOb 0 6) rfl rfl ?_
          refine w_load i_78_56 rfl rfl ?_
          refine w_aaldN (e := x) (12 + 18 * x) i_78_57 hκ (⟨by decide, by decide⟩ : (kd 3 = 22 ∨ kd 3 = 23) ∧ 3 < 180) (by omega) rfl ?_
          refine w_load i_78_58 rfl rfl ?_
          refine w_getR ((19 + 18 * x) + 3) i_78_60 hκ (pl_ob (pl_of (by omega : x < 6))) rfl rfl ?_
          refine w_load i_78_63 rfl rfl ?_
          refine w_getI (v := (nI ii)) i_78_65 hκ (pl_ob (pl_of (by omega : x < 6))) rfl (hii) ?_
          refine w_load i_78_68 rfl rfl ?_
          exact w_callVI (i := _) i_78_69 ⟨by decide, by decide, by decide, rfl⟩ hκ (pl_ob (pl_of (by omega : x < 6))) (av := [.ref (12 + 18 * x), .ref ((19 + 18 * x) + 3), .int (nI ii), .int rr]) (rest := []) rfl rfl (Nat.le_of_ble_eq_true rfl) (k2 h4 h6 h7)
        · intro h8
          refine w_load i_78_75 rfl rfl ?_
          refine w_load i_78_77 rfl rfl ?_
          refine w_getR 3 i_78_78 hκ (⟨rfl, by decide⟩ : isOb 0 6) rfl rfl ?_
          refine w_load i_78_81 rfl rfl ?_
          refine w_aaldN (e := x) (12 + 18 * x) i_78_82 hκ (⟨by decide, by decide⟩ : (kd 3 = 22 ∨ kd 3 = 23) ∧ 3 < 180) (by omega) rfl ?_
          refine w_load i_78_83 rfl rfl ?_
          refine w_getR ((19 + 18 * x) + 2) i_78_85 hκ (pl_ob (pl_of (by omega : x < 6))) rfl rfl ?_
          refine w_load i_78_88 rfl rfl ?_
          refine w_getI (v := (nI len)) i_78_90 hκ (pl_ob (pl_of (by omega : x < 6))) rfl (hlen) ?_
          refine w_load i_78_93 rfl rfl ?_
          exact w_callVI (i := _) i_78_94 ⟨by decide, by decide, by decide, rfl⟩ hκ (pl_ob (pl_of (by omega : x < 6))) (av := [.ref (12 + 18 * x), .ref ((19 + 18 * x) + 2), .int (nI len), .int rr]) (rest := []) rfl rfl (Nat.le_of_ble_eq_true rfl) (k3 h4 h6 h8)
      · intro h9
        exact (by first | exact (K1 (.inr ⟨h4, h9⟩)) | (have K9 := K1 (.inr ⟨h4, h9⟩); simp only [↓if_neg h4, ↓if_neg h9] at K9 ⊢; exact (K9)))
    refine w_if0n (md = true) i_78_19 cB_eq ?_ ?_
    · intro h10
      refine w_load i_78_22 rfl rfl ?_
      refine w_getI (v := (nI ii)) i_78_24 hκ (pl_ob (pl_of (by omega : x < 6))) rfl (hii) ?_
      refine w_goto i_78_27 ?_
      exact (by first | exact (K5) | (have K9 := K5; simp only [↓if_pos h10] at K9 ⊢; exact (K9)))
    · intro h11
      refine w_load i_78_30 rfl rfl ?_
      refine w_getI (v := (nI len)) i_78_32 hκ (pl_ob (pl_of (by omega : x < 6))) rfl (hlen) ?_
      exact (by first | exact (K5) | (have K9 := K5; simp only [↓if_neg h11] at K9 ⊢; exact (K9)))
theorem i_78_72 : ins 78 72 = some (.goto 25, 75, 97, 0, 0, 0) := rfl
theorem i_78_97 : ins 78 97 = some (.lreturn, 98, 0, 0, 0, 0) := rfl
theorem S78_72 {Q : Ou → Prop} {M : Mem} {κ : Kp} (hκ : Rd κ)  {aa : Int64}
    (k1 : Q (.inl (some (.long aa)), M, κ))
    : RT 78 (72, [UU, UU, UU, UU, UU], [.long aa], M, κ) Q := by
  refine w_goto i_78_72 ?_
  exact w_lret i_78_97 rfl (k1)
theorem S78_97 {Q : Ou → Prop} {M : Mem} {κ : Kp} (hκ : Rd κ)  {aa : Int64}
    (k1 : Q (.inl (some (.long aa)), M, κ))
    : RT 78 (97, [UU, UU, UU, UU, UU], [.long aa], M, κ) Q := by
  exact w_lret i_78_97 rfl (k1)
theorem i_61_0 : ins 61 0 = some (.lconst 0, 1, 0, 0, 0, 0) := rfl
theorem i_61_1 : ins 61 1 = some (.lstore 5, 3, 5, 0, 0, 0) := rfl
theorem i_61_3 : ins 61 3 = some (.iconst 0, 4, 0, 0, 0, 0) := rfl
theorem i_61_4 : ins 61 4 = some (.istore 7, 6, 7, 0, 0, 0) := rfl
theorem i_61_6 : ins 61 6 = some (.iconst 4, 7, 0, 0, 0, 4) := rfl
theorem i_61_7 : ins 61 7 = some (.istore 8, 9, 8, 0, 0, 0) := rfl
theorem i_61_9 : ins 61 9 = some (.iconst 0, 10, 0, 0, 0, 0) := rfl
theorem i_61_10 : ins 61 10 = some (.istore 9, 12, 9, 0, 0, 0) := rfl
theorem S61_0 {Q : Ou → Prop} {M : Mem} {κ : Kp} (hκ : Rd κ) {p b ca : Nat} (hp : isPl p) (hb : isBl b) (hca : isAr ca 10) {iv : Int32} {rr : Int32}
    (k1 : RT 61 (12, [UU, .ref b, .ref ca, .int iv, .int rr, .long 0, UU, .int (nI 0), .int (nI 4), .int (nI 0), UU, UU], [], M, κ) Q)
    : RT 61 (0, [.ref p, .ref b, .ref ca, .int iv, .int rr, UU, UU, UU, UU, UU, UU, UU], [], M, κ) Q := by
  refine w_lpush i_61_0 ?_
  refine w_store (l1 := [.ref p, .ref b, .ref ca, .int iv, .int rr, .long 0, UU, UU, UU, UU, UU, UU]) i_61_1 rfl (Nat.le_of_ble_eq_true rfl) rfl ?_
  refine w_push i_61_3 rfl ?_
  refine w_store (l1 := [.ref p, .ref b, .ref ca, .int iv, .int rr, .long 0, UU, .int 0, UU, UU, UU, UU]) i_61_4 rfl (Nat.le_of_ble_eq_true rfl) rfl ?_
  refine w_push i_61_6 rfl ?_
  refine w_store (l1 := [.ref p, .ref b, .ref ca, .int iv, .int rr, .long 0, UU, .int 0, .int 4, UU, UU, UU]) i_61_7 rfl (Nat.le_of_ble_eq_true rfl) rfl ?_
  refine w_push i_61_9 rfl ?_
  refine w_store (l1 := [.ref p, .ref b, .ref ca, .int iv, .int rr, .long 0, UU, .int 0, .int 4, .int 0, UU, UU]) i_61_10 rfl (Nat.le_of_ble_eq_true rfl) rfl ?_
  exact w_weak (lle_u (lle_s (lle_s (lle_s (lle_s (lle_s (lle_s (lle_s (lle_s (lle_s (lle_s (lle_s lle_n)))))))))))) (k1)
theorem i_61_12 : ins 61 12 = some (.iload 9, 14, 9, 0, 0, 0) := rfl
theorem i_61_14 : ins 61 14 = some (.aload_n 1, 15, 1, 0, 0, 0) := rfl
theorem i_61_15 : ins 61 15 = some (.getfield 47, 18, 0, 4, 0, 0) := rfl
theorem i_61_18 : ins 61 18 = some (.if_icmp .ge 82, 21, 100, 0, 0, 0) := rfl
theorem i_61_21 : ins 61 21 = some (.aload_n 2, 22, 2, 0, 0, 0) := rfl
theorem i_61_22 : ins 61 22 = some (.iload 9, 24, 9, 0, 0, 0) := rfl
theorem i_61_24 : ins 61 24 = some (.iaload, 25, 0, 0, 0, 0) := rfl
theorem i_61_25 : ins 61 25 = some (.iload_n 3, 26, 3, 0, 0, 0) := rfl
theorem i_61_26 : ins 61 26 = some (.invokestatic 52, 29, 63, 1, 2, 0) := rfl
theorem i_61_29 : ins 61 29 = some (.iload 4, 31, 4, 0, 0, 0) := rfl
theorem i_61_31 : ins 61 31 = some (.if_icmp .ne 63, 34, 94, 0, 0, 0) := rfl
theorem i_61_34 : ins 61 34 = some (.aload_n 2, 35, 2, 0, 0, 0) := rfl
theorem i_61_35 : ins 61 35 = some (.iload 9, 37, 9, 0, 0, 0) := rfl
theorem i_61_37 : ins 61 37 = some (.iaload, 38, 0, 0, 0, 0) := rfl
theorem i_61_38 : ins 61 38 = some (.iload_n 3, 39, 3, 0, 0, 0) := rfl
theorem i_61_39 : ins 61 39 = some (.invokestatic 55, 42, 62, 1, 2, 0) := rfl
theorem i_61_42 : ins 61 42 = some (.istore 10, 44, 10, 0, 0, 0) := rfl
theorem i_61_44 : ins 61 44 = some (.aload_n 1, 45, 1, 0, 0, 0) := rfl
theorem i_61_45 : ins 61 45 = some (.getfield 58, 48, 0, 6, 0, 0) := rfl
theorem i_61_48 : ins 61 48 = some (.iload 9, 50, 9, 0, 0, 0) := rfl
theorem i_61_50 : ins 61 50 = some (.iaload, 51, 0, 0, 0, 0) := rfl
theorem i_61_51 : ins 61 51 = some (.invokestatic 61, 54, 83, 5, 1, 0) := rfl
theorem i_61_54 : ins 61 54 = some (.ifCond .eq 11, 57, 65, 0, 0, 0) := rfl
theorem i_61_57 : ins 61 57 = some (.iload 8, 59, 8, 0, 0, 0) := rfl
theorem i_61_59 : ins 61 59 = some (.iinc 8 1, 62, 8, 0, 0, 1) := rfl
theorem i_61_62 : ins 61 62 = some (.goto 8, 65, 70, 0, 0, 0) := rfl
theorem i_61_65 : ins 61 65 = some (.iload 7, 67, 7, 0, 0, 0) := rfl
theorem i_61_67 : ins 61 67 = some (.iinc 7 1, 70, 7, 0, 0, 1) := rfl
theorem i_61_70 : ins 61 70 = some (.istore 11, 72, 11, 0, 0, 0) := rfl
theorem i_61_72 : ins 61 72 = some (.lload 5, 74, 5, 0, 0, 0) := rfl
theorem i_61_74 : ins 61 74 = some (.iload 9, 76, 9, 0, 0, 0) := rfl
theorem i_61_76 : ins 61 76 = some (.iconst 1, 77, 0, 0, 0, 1) := rfl
theorem i_61_77 : ins 61 77 = some (.iadd, 78, 0, 0, 0, 0) := rfl
theorem i_61_78 : ins 61 78 = some (.bipush 16, 80, 0, 0, 0, 16) := rfl
theorem i_61_80 : ins 61 80 = some (.iload 10, 82, 10, 0, 0, 0) := rfl
theorem i_61_82 : ins 61 82 = some (.imul, 83, 0, 0, 0, 0) := rfl
theorem i_61_83 : ins 61 83 = some (.iadd, 84, 0, 0, 0, 0) := rfl
theorem i_61_84 : ins 61 84 = some (.i2l, 85, 0, 0, 0, 0) := rfl
theorem i_61_85 : ins 61 85 = some (.bipush 8, 87, 0, 0, 0, 8) := rfl
theorem i_61_87 : ins 61 87 = some (.iload 11, 89, 11, 0, 0, 0) := rfl
theorem i_61_89 : ins 61 89 = some (.imul, 90, 0, 0, 0, 0) := rfl
theorem i_61_90 : ins 61 90 = some (.lshl, 91, 0, 0, 0, 0) := rfl
theorem i_61_91 : ins 61 91 = some (.lor, 92, 0, 0, 0, 0) := rfl
theorem i_61_92 : ins 61 92 = some (.lstore 5, 94, 5, 0, 0, 0) := rfl
theorem i_61_94 : ins 61 94 = some (.iinc 9 1, 97, 9, 0, 0, 1) := rfl
theorem i_61_97 : ins 61 97 = some (.goto (-85), 100, 12, 0, 0, 0) := rfl
theorem i_61_100 : ins 61 100 = some (.lload 5, 102, 5, 0, 0, 0) := rfl
theorem i_61_102 : ins 61 102 = some (.lreturn, 103, 0, 0, 0, 0) := rfl
theorem S61_12 {Q : Ou → Prop} {M : Mem} {κ : Kp} (hκ : Rd κ) {p b ca n k : Nat} {O : Op} {c : Nat → Int32} (hp : isPl p) (hb : isBl b) (hca : isAr ca 10) (hk : k ≤ n) (hn : n ≤ 10) (hc : M b 4 = nI n) (hcy : ∀ j, j < n → M ca j = c j) (hO : ∀ f, f < 6 → ∀ j, j < n → M (b + 1 + f) j = O f j) {iv : Int32} {rr : Int32} {bi : Int64} {al : Nat} {po : Nat} (b_al : al ≤ 100000) (b_po : po ≤ 100000)
    (k1 : k < n → RT 61 (12, [UU, .ref b, .ref ca, .int iv, .int rr, .long (if (rmF (c k) iv) = rr then (bi ||| ((((nI (k + 1)) + (16 * (dvF (c k) iv))).toInt64) <<< ((nI (8 * (if (isP (O 0 k)) = true then po else al))).toInt64 &&& 63))) else bi), UU, .int (nI (if (rmF (c k) iv) = rr then (if (isP (O 0 k)) = true then al else (al + 1)) else al)), .int (nI (if (rmF (c k) iv) = rr then (if (isP (O 0 k)) = true then (po + 1) else po) else po)), .int (nI (k + 1)), UU, UU], [], M, κ) Q)
    (k2 : ¬ (k < n) → Q (.inl (some (.long bi)), M, κ))
    : RT 61 (12, [UU, .ref b, .ref ca, .int iv, .int rr, .long bi, UU, .int (nI al), .int (nI po), .int (nI k), UU, UU], [], M, κ) Q := by
  refine w_load i_61_12 rfl rfl ?_
  refine w_load i_61_14 rfl rfl ?_
  refine w_getI (v := (nI n)) i_61_15 hκ (bl_ob hb) rfl (hc) ?_
  refine w_if2n (k < n) i_61_18 (cN_ge (a := k) (b := n) (by omega) (by omega)) ?_ ?_
  · intro h1
    refine w_load i_61_21 rfl rfl ?_
    refine w_load i_61_22 rfl rfl ?_
    refine w_ialdN (e := k) (v := (c k)) i_61_24 hκ hca (by omega) (by decide) (hcy k (by omega)) ?_
    refine w_load i_61_25 rfl rfl ?_
    refine w_callS i_61_26 ⟨by decide, by decide, by decide, rfl, rfl⟩ (av := [.int (c k), .int iv]) (rest := []) rfl rfl (Nat.le_of_ble_eq_true rfl) (v := some (.int (rmF (c k) iv))) (c63 hκ) ?_
    refine w_load i_61_29 rfl rfl ?_
    have K2 : RT 61 (94, [UU, .ref b, .ref ca, .int iv, .int rr, .long (if (rmF (c k) iv) = rr then (bi ||| ((((nI (k + 1)) + (16 * (dvF (c k) iv))).toInt64) <<< ((nI (8 * (if (isP (O 0 k)) = true then po else al))).toInt64 &&& 63))) else bi), UU, .int (nI (if (rmF (c k) iv) = rr then (if (isP (O 0 k)) = true then al else (al + 1)) else al)), .int (nI (if (rmF (c k) iv) = rr then (if (isP (O 0 k)) = true then (po + 1) else po) else po)), .int (nI k), UU, UU], [], M, κ) Q := by
      refine w_iincN (n := k) (l1 := [UU, .ref b, .ref ca, .int iv, .int rr, .long (if (rmF (c k) iv) = rr then (bi ||| ((((nI (k + 1)) + (16 * (dvF (c k) iv))).toInt64) <<< ((nI (8 * (if (isP (O 0 k)) = true then po else al))).toInt64 &&& 63))) else bi), UU, .int (nI (if (rmF (c k) iv) = rr then (if (isP (O 0 k)) = true then al else (al + 1)) else al)), .int (nI (if (rmF (c k) iv) = rr then (if (isP (O 0 k)) = true then (po + 1) else po) else po)), .int (nI (k + 1)), UU, UU]) 1 i_61_94 rfl rfl ?_
      refine w_goto i_61_97 ?_
      exact (k1 h1)
    refine w_if2n ((rmF (c k) iv) = rr) i_61_31 cI_ne ?_ ?_
    · intro h3
      refine w_load i_61_34 rfl rfl ?_
      refine w_load i_61_35 rfl rfl ?_
      refine w_ialdN (e := k) (v := (c k)) i_61_37 hκ hca (by omega) (by decide) (hcy k (by omega)) ?_
      refine w_load i_61_38 rfl rfl ?_
      refine w_callS i_61_39 ⟨by decide, by decide, by decide, rfl, rfl⟩ (av := [.int (c k), .int iv]) (rest := []) rfl rfl (Nat.le_of_ble_eq_true rfl) (v := some (.int (dvF (c k) iv))) (c62 hκ) ?_
      refine w_store (l1 := [UU, .ref b, .ref ca, .int iv, .int rr, .long bi, UU, .int (nI al), .int (nI po), .int (nI k), .int (dvF (c k) iv), UU]) i_61_42 rfl (Nat.le_of_ble_eq_true rfl) rfl ?_
      refine w_load i_61_44 rfl rfl ?_
      refine w_getR (b + 1) i_61_45 hκ (bl_ob hb) rfl rfl ?_
      refine w_load i_61_48 rfl rfl ?_
      refine w_ialdN (e := k) (v := (O 0 k)) i_61_50 hκ (bl_ar hb 1 (by decide)) (by omega) (by decide) (hO 0 (by decide) k (by omega)) ?_
      refine w_callS i_61_51 ⟨by decide, by decide, by decide, rfl, rfl⟩ (av := [.int (O 0 k)]) (rest := []) rfl rfl (Nat.le_of_ble_eq_true rfl) (v := some (.int (bI (isP (O 0 k))))) (c83 hκ) ?_
      have K4 : RT 61 (70, [UU, .ref b, .ref ca, .int iv, .int rr, .long bi, UU, .int (nI (if (isP (O 0 k)) = true then al else (al + 1))), .int (nI (if (isP (O 0 k)) = true then (po + 1) else po)), .int (nI k), .int (dvF (c k) iv), UU], [.int (nI (if (isP (O 0 k)) = true then po else al))], M, κ) Q := by
        refine w_store (l1 := [UU, .ref b, .ref ca, .int iv, .int rr, .long bi, UU, .int (nI (if (isP (O 0 k)) = true then al else (al + 1))), .int (nI (if (isP (O 0 k)) = true then (po + 1) else po)), .int (nI k), .int (dvF (c k) iv), .int (nI (if (isP (O 0 k)) = true then po else al))]) i_61_70 rfl (Nat.le_of_ble_eq_true rfl) rfl ?_
        refine w_load i_61_72 rfl rfl ?_
        refine w_load i_61_74 rfl rfl ?_
        refine w_push i_61_76 rfl ?_
        refine w_bin (w := (nI (k + 1))) i_61_77 rfl (nI_add k 1) ?_
        refine w_push i_61_78 rfl ?_
        refine w_load i_61_80 rfl rfl ?_
        refine w_bin (w := (16 * (dvF (c k) iv))) i_61_82 rfl rfl ?_
        refine w_bin (w := ((nI (k + 1)) + (16 * (dvF (c k) iv)))) i_61_83 rfl rfl ?_
        refine w_i2l i_61_84 ?_
        refine w_push i_61_85 rfl ?_
        refine w_load i_61_87 rfl rfl ?_
        refine w_bin (w := (nI (8 * (if (isP (O 0 k)) = true then po else al)))) i_61_89 rfl (nI_mul 8 (if (isP (O 0 k)) = true then po else al)) ?_
        refine w_lshl i_61_90 ?_
        refine w_lor i_61_91 ?_
        refine w_store (l1 := [UU, .ref b, .ref ca, .int iv, .int rr, .long (bi ||| ((((nI (k + 1)) + (16 * (dvF (c k) iv))).toInt64) <<< ((nI (8 * (if (isP (O 0 k)) = true then po else al))).toInt64 &&& 63))), UU, .int (nI (if (isP (O 0 k)) = true then al else (al + 1))), .int (nI (if (isP (O 0 k)) = true then (po + 1) else po)), .int (nI k), .int (dvF (c k) iv), .int (nI (if (isP (O 0 k)) = true then po else al))]) i_61_92 rfl (Nat.le_of_ble_eq_true rfl) rfl ?_
        exact (by first | exact w_weak (lle_s (lle_s (lle_s (lle_s (lle_s (lle_s (lle_s (lle_s (lle_s (lle_s (lle_u (lle_u lle_n)))))))))))) (K2) | (have K9 := K2; simp only [↓if_pos h3] at K9 ⊢; exact w_weak (lle_s (lle_s (lle_s (lle_s (lle_s (lle_s (lle_s (lle_s (lle_s (lle_s (lle_u (lle_u lle_n)))))))))))) (K9)))
      refine w_if0n ((isP (O 0 k)) = true) i_61_54 cB_eq ?_ ?_
      · intro h5
        refine w_load i_61_57 rfl rfl ?_
        refine w_iincN (n := po) (l1 := [UU, .ref b, .ref ca, .int iv, .int rr, .long bi, UU, .int (nI al), .int (nI (po + 1)), .int (nI k), .int (dvF (c k) iv), UU]) 1 i_61_59 rfl rfl ?_
        refine w_goto i_61_62 ?_
        exact (by first | exact (K4) | (have K9 := K4; simp only [↓if_pos h5] at K9 ⊢; exact (K9)))
      · intro h6
        refine w_load i_61_65 rfl rfl ?_
        refine w_iincN (n := al) (l1 := [UU, .ref b, .ref ca, .int iv, .int rr, .long bi, UU, .int (nI (al + 1)), .int (nI po), .int (nI k), .int (dvF (c k) iv), UU]) 1 i_61_67 rfl rfl ?_
        exact (by first | exact (K4) | (have K9 := K4; simp only [↓if_neg h6] at K9 ⊢; exact (K9)))
    · intro h7
      exact (by first | exact (K2) | (have K9 := K2; simp only [↓if_neg h7] at K9 ⊢; exact (K9)))
  · intro h8
    refine w_load i_61_100 rfl rfl ?_
    exact w_lret i_61_102 rfl (k2 h8)
theorem i_150_0 : ins 150 0 = some (.iload_n 1, 1, 1, 0, 0, 0) := rfl
theorem i_150_1 : ins 150 1 = some (.iconst 0, 2, 0, 0, 0, 0) := rfl
theorem i_150_2 : ins 150 2 = some (.iconst 5, 3, 0, 0, 0, 5) := rfl
theorem i_150_3 : ins 150 3 = some (.invokestatic 162, 6, 95, 1, 3, 0) := rfl
theorem i_150_6 : ins 150 6 = some (.ifCond .eq 7, 9, 13, 0, 0, 0) := rfl
theorem i_150_9 : ins 150 9 = some (.iconst 0, 10, 0, 0, 0, 0) := rfl
theorem i_150_10 : ins 150 10 = some (.goto 22, 13, 32, 0, 0, 0) := rfl
theorem i_150_13 : ins 150 13 = some (.iload_n 3, 14, 3, 0, 0, 0) := rfl
theorem i_150_14 : ins 150 14 = some (.ifCond .eq 12, 17, 26, 0, 0, 0) := rfl
theorem i_150_17 : ins 150 17 = some (.aload_n 0, 18, 0, 0, 0, 0) := rfl
theorem i_150_18 : ins 150 18 = some (.getfield 114, 21, 7, 38, 0, 0) := rfl
theorem i_150_21 : ins 150 21 = some (.iload_n 1, 22, 1, 0, 0, 0) := rfl
theorem i_150_22 : ins 150 22 = some (.iaload, 23, 0, 0, 0, 0) := rfl
theorem i_150_23 : ins 150 23 = some (.goto 9, 26, 32, 0, 0, 0) := rfl
theorem i_150_26 : ins 150 26 = some (.aload_n 0, 27, 0, 0, 0, 0) := rfl
theorem i_150_27 : ins 150 27 = some (.getfield 108, 30, 7, 36, 0, 0) := rfl
theorem i_150_30 : ins 150 30 = some (.iload_n 1, 31, 1, 0, 0, 0) := rfl
theorem i_150_31 : ins 150 31 = some (.iaload, 32, 0, 0, 0, 0) := rfl
theorem i_150_32 : ins 150 32 = some (.istore 4, 34, 4, 0, 0, 0) := rfl
theorem i_150_34 : ins 150 34 = some (.aload_n 0, 35, 0, 0, 0, 0) := rfl
theorem i_150_35 : ins 150 35 = some (.aload_n 0, 36, 0, 0, 0, 0) := rfl
theorem i_150_36 : ins 150 36 = some (.iload_n 1, 37, 1, 0, 0, 0) := rfl
theorem i_150_37 : ins 150 37 = some (.iconst 1, 38, 0, 0, 0, 1) := rfl
theorem i_150_38 : ins 150 38 = some (.iload_n 2, 39, 2, 0, 0, 0) := rfl
theorem i_150_39 : ins 150 39 = some (.iconst 0, 40, 0, 0, 0, 0) := rfl
theorem i_150_40 : ins 150 40 = some (.iload 4, 42, 4, 0, 0, 0) := rfl
theorem i_150_42 : ins 150 42 = some (.iconst 1, 43, 0, 0, 0, 1) := rfl
theorem i_150_43 : ins 150 43 = some (.isub, 44, 0, 0, 0, 0) := rfl
theorem i_150_44 : ins 150 44 = some (.invokestatic 162, 47, 95, 1, 3, 0) := rfl
theorem i_150_47 : ins 150 47 = some (.ifCond .ne 7, 50, 54, 0, 0, 0) := rfl
theorem i_150_50 : ins 150 50 = some (.iconst 1, 51, 0, 0, 0, 1) := rfl
theorem i_150_51 : ins 150 51 = some (.goto 4, 54, 55, 0, 0, 0) := rfl
theorem i_150_54 : ins 150 54 = some (.iconst 0, 55, 0, 0, 0, 0) := rfl
theorem i_150_55 : ins 150 55 = some (.invokevirtual 322, 58, 147, 0, 4, 0) := rfl
theorem i_150_58 : ins 150 58 = some (.putfield 159, 61, 7, 0, 0, 0) := rfl
theorem i_150_61 : ins 150 61 = some (.aload_n 0, 62, 0, 0, 0, 0) := rfl
theorem i_150_62 : ins 150 62 = some (.getfield 159, 65, 7, 0, 0, 0) := rfl
theorem i_150_65 : ins 150 65 = some (.ifCond .le 5, 68, 70, 0, 0, 0) := rfl
theorem i_150_68 : ins 150 68 = some (.lconst 0, 69, 0, 0, 0, 0) := rfl
theorem i_150_69 : ins 150 69 = some (.lreturn, 70, 0, 0, 0, 0) := rfl
theorem i_150_70 : ins 150 70 = some (.lconst 0, 71, 0, 0, 0, 0) := rfl
theorem S150_0 {Q : Ou → Prop} {M : Mem} {κ : Kp} (hκ : Rd κ)  {kk : Int32} {rr : Int32} {md : Bool} {r_55 : Nat}
    (o1 : Run 147 (0, entL 147 [.ref 134, .int kk, .int 1, .int (bI (if (outR rr 0 ((if (outR kk 0 5) = true then 0 else (if md = true then (M 163 kk.toNatClampNeg) else (M 161 kk.toNatClampNeg))) - 1)) = true then false else true))], [], M, κ) (.inl (some (.int (nI r_55))), M, κ))
    (o2 : ¬ ((outR kk 0 5) = true) → md = true → vp_in kk 6)
    (o3 : ¬ ((outR kk 0 5) = true) → ¬ (md = true) → vp_in kk 6)
    (k1 : 0 < (nI r_55) → Q (.inl (some (.long 0)), (stM M 134 0 (nI r_55)), κ))
    (k2 : ¬ (0 < (nI r_55)) → RT 150 (71, [.ref 134, .int kk, .int rr, .int (bI md), .int (if (outR kk 0 5) = true then 0 else (if md = true then (M 163 kk.toNatClampNeg) else (M 161 kk.toNatClampNeg))), UU, UU, UU, UU, UU, UU, UU, UU, UU], [.long 0], (stM M 134 0 (nI r_55)), κ) Q)
    : RT 150 (0, [.ref 134, .int kk, .int rr, .int (bI md), UU, UU, UU, UU, UU, UU, UU, UU, UU, UU], [], M, κ) Q := by
  refine w_load i_150_0 rfl rfl ?_
  refine w_push i_150_1 rfl ?_
  refine w_push i_150_2 rfl ?_
  refine w_callS i_150_3 ⟨by decide, by decide, by decide, rfl, rfl⟩ (av := [.int kk, .int 0, .int 5]) (rest := []) rfl rfl (Nat.le_of_ble_eq_true rfl) (v := some (.int (bI (outR kk 0 5)))) (c95 hκ) ?_
  have K1 : RT 150 (32, [.ref 134, .int kk, .int rr, .int (bI md), UU, UU, UU, UU, UU, UU, UU, UU, UU, UU], [.int (if (outR kk 0 5) = true then 0 else (if md = true then (M 163 kk.toNatClampNeg) else (M 161 kk.toNatClampNeg)))], M, κ) Q := by
    refine w_store (l1 := [.ref 134, .int kk, .int rr, .int (bI md), .int (if (outR kk 0 5) = true then 0 else (if md = true then (M 163 kk.toNatClampNeg) else (M 161 kk.toNatClampNeg))), UU, UU, UU, UU, UU, UU, UU, UU, UU]) i_150_32 rfl (Nat.le_of_ble_eq_true rfl) rfl ?_
    refine w_load i_150_34 rfl rfl ?_
    refine w_load i_150_35 rfl rfl ?_
    refine w_load i_150_36 rfl rfl ?_
    refine w_push i_150_37 rfl ?_
    refine w_load i_150_38 rfl rfl ?_
    refine w_push i_150_39 rfl ?_
    refine w_load i_150_40 rfl rfl ?_
    refine w_push i_150_42 rfl ?_
    refine w_bin (w := ((if (outR kk 0 5) = true then 0 else (if md = true then (M 163 kk.toNatClampNeg) else (M 161 kk.toNatClampNeg))) - 1)) i_150_43 rfl rfl ?_
    refine w_callS i_150_44 ⟨by decide, by decide, by decide, rfl, rfl⟩ (av := [.int rr, .int 0, .int ((if (outR kk 0 5) = true then 0 else (if md = true then (M 163 kk.toNatClampNeg) else (M 161 kk.toNatClampNeg))) - 1)]) (rest := [.int 1, .int kk, .ref 134, .ref 134]) rfl rfl (Nat.le_of_ble_eq_true rfl) (v := some (.int (bI (outR rr 0 ((if (outR kk 0 5) = true then 0 else (if md = true then (M 163 kk.toNatClampNeg) else (M 161 kk.toNatClampNeg))) - 1))))) (c95 hκ) ?_
    have K2 : RT 150 (55, [.ref 134, .int kk, .int rr, .int (bI md), .int (if (outR kk 0 5) = true then 0 else (if md = true then (M 163 kk.toNatClampNeg) else (M 161 kk.toNatClampNeg))), UU, UU, UU, UU, UU, UU, UU, UU, UU], [.int (bI (if (outR rr 0 ((if (outR kk 0 5) = true then 0 else (if md = true then (M 163 kk.toNatClampNeg) else (M 161 kk.toNatClampNeg))) - 1)) = true then false else true)), .int 1, .int kk, .ref 134, .ref 134], M, κ) Q := by
      refine w_callV (i := _) i_150_55 ⟨by decide, by decide, by decide, rfl⟩ hκ (⟨rfl, by decide⟩ : isOb 134 7) (av := [.int kk, .int 1, .int (bI (if (outR rr 0 ((if (outR kk 0 5) = true then 0 else (if md = true then (M 163 kk.toNatClampNeg) else (M 161 kk.toNatClampNeg))) - 1)) = true then false else true))]) (rest := [.ref 134]) rfl rfl (Nat.le_of_ble_eq_true rfl) (v := some (.int (nI r_55))) (o1) ?_
      refine w_putI i_150_58 hκ (⟨rfl, by decide⟩ : isOb 134 7) rfl (fun c => absurd c (by decide)) ?_
      refine w_load i_150_61 rfl rfl ?_
      refine w_getI (v := (nI r_55)) i_150_62 hκ (⟨rfl, by decide⟩ : isOb 134 7) rfl (stM_s) ?_
      refine w_if0n (0 < (nI r_55)) i_150_65 cI0_le ?_ ?_
      · intro h3
        refine w_lpush i_150_68 ?_
        exact w_lret i_150_69 rfl (k1 h3)
      · intro h4
        refine w_lpush i_150_70 ?_
        exact (k2 h4)
    refine w_if0 ((outR rr 0 ((if (outR kk 0 5) = true then 0 else (if md = true then (M 163 kk.toNatClampNeg) else (M 161 kk.toNatClampNeg))) - 1)) = true) i_150_47 cB_ne ?_ ?_
    · intro h5
      refine w_push i_150_54 rfl ?_
      exact (by first | exact (K2) | (have K9 := K2; simp only [↓if_pos h5] at K9 ⊢; exact (K9)))
    · intro h6
      refine w_push i_150_50 rfl ?_
      refine w_goto i_150_51 ?_
      exact (by first | exact (K2) | (have K9 := K2; simp only [↓if_neg h6] at K9 ⊢; exact (K9)))
  refine w_if0n ((outR kk 0 5) = true) i_150_6 cB_eq ?_ ?_
  · intro h7
    refine w_push i_150_9 rfl ?_
    refine w_goto i_150_10 ?_
    exact (by first | exact (K1) | (have K9 := K1; simp only [↓if_pos h7] at K9 ⊢; exact (K9)))
  · intro h8
    refine w_load i_150_13 rfl rfl ?_
    refine w_if0n (md = true) i_150_14 cB_eq ?_ ?_
    · intro h9
      refine w_load i_150_17 rfl rfl ?_
      refine w_getR 163 i_150_18 hκ (⟨rfl, by decide⟩ : isOb 134 7) rfl rfl ?_
      refine w_load i_150_21 rfl rfl ?_
      refine w_iald (v := (M 163 kk.toNatClampNeg)) i_150_22 hκ (⟨rfl, rfl, by decide⟩ : isAr 163 6) (o2 h8 h9) (rfl) ?_
      refine w_goto i_150_23 ?_
      exact (by first | exact (K1) | (have K9 := K1; simp only [↓if_neg h8, ↓if_pos h9] at K9 ⊢; exact (K9)))
    · intro h10
      refine w_load i_150_26 rfl rfl ?_
      refine w_getR 161 i_150_27 hκ (⟨rfl, by decide⟩ : isOb 134 7) rfl rfl ?_
      refine w_load i_150_30 rfl rfl ?_
      refine w_iald (v := (M 161 kk.toNatClampNeg)) i_150_31 hκ (⟨rfl, rfl, by decide⟩ : isAr 161 6) (o3 h8 h10) (rfl) ?_
      exact (by first | exact (K1) | (have K9 := K1; simp only [↓if_neg h8, ↓if_neg h10] at K9 ⊢; exact (K9)))
theorem i_150_71 : ins 150 71 = some (.lstore 5, 73, 5, 0, 0, 0) := rfl
theorem i_150_73 : ins 150 73 = some (.iconst 0, 74, 0, 0, 0, 0) := rfl
theorem i_150_74 : ins 150 74 = some (.istore 7, 76, 7, 0, 0, 0) := rfl
theorem i_150_76 : ins 150 76 = some (.iconst 4, 77, 0, 0, 0, 4) := rfl
theorem i_150_77 : ins 150 77 = some (.istore 8, 79, 8, 0, 0, 0) := rfl
theorem i_150_79 : ins 150 79 = some (.iconst 0, 80, 0, 0, 0, 0) := rfl
theorem i_150_80 : ins 150 80 = some (.istore 9, 82, 9, 0, 0, 0) := rfl
theorem S150_71 {Q : Ou → Prop} {M : Mem} {κ : Kp} (hκ : Rd κ) {x rows : Nat} (hx : x < 6) {rr : Int32} {md : Bool}
    (k1 : RT 150 (82, [.ref 134, .int (nI x), .int rr, .int (bI md), .int (nI rows), .long 0, UU, .int (nI 0), .int (nI 4), .int (nI 0), UU, UU, UU, UU], [], M, κ) Q)
    : RT 150 (71, [.ref 134, .int (nI x), .int rr, .int (bI md), .int (nI rows), UU, UU, UU, UU, UU, UU, UU, UU, UU], [.long 0], M, κ) Q := by
  refine w_store (l1 := [.ref 134, .int (nI x), .int rr, .int (bI md), .int (nI rows), .long 0, UU, UU, UU, UU, UU, UU, UU, UU]) i_150_71 rfl (Nat.le_of_ble_eq_true rfl) rfl ?_
  refine w_push i_150_73 rfl ?_
  refine w_store (l1 := [.ref 134, .int (nI x), .int rr, .int (bI md), .int (nI rows), .long 0, UU, .int 0, UU, UU, UU, UU, UU, UU]) i_150_74 rfl (Nat.le_of_ble_eq_true rfl) rfl ?_
  refine w_push i_150_76 rfl ?_
  refine w_store (l1 := [.ref 134, .int (nI x), .int rr, .int (bI md), .int (nI rows), .long 0, UU, .int 0, .int 4, UU, UU, UU, UU, UU]) i_150_77 rfl (Nat.le_of_ble_eq_true rfl) rfl ?_
  refine w_push i_150_79 rfl ?_
  refine w_store (l1 := [.ref 134, .int (nI x), .int rr, .int (bI md), .int (nI rows), .long 0, UU, .int 0, .int 4, .int 0, UU, UU, UU, UU]) i_150_80 rfl (Nat.le_of_ble_eq_true rfl) rfl ?_
  exact (k1)
theorem i_150_82 : ins 150 82 = some (.iload 9, 84, 9, 0, 0, 0) := rfl
theorem i_150_84 : ins 150 84 = some (.aload_n 0, 85, 0, 0, 0, 0) := rfl
theorem i_150_85 : ins 150 85 = some (.getfield 78, 88, 7, 26, 0, 0) := rfl
theorem i_150_88 : ins 150 88 = some (.iload_n 1, 89, 1, 0, 0, 0) := rfl
theorem i_150_89 : ins 150 89 = some (.iaload, 90, 0, 0, 0, 0) := rfl
theorem i_150_90 : ins 150 90 = some (.if_icmp .ge 152, 93, 242, 0, 0, 0) := rfl
theorem i_150_93 : ins 150 93 = some (.bipush 10, 95, 0, 0, 0, 10) := rfl
theorem i_150_95 : ins 150 95 = some (.iload_n 1, 96, 1, 0, 0, 0) := rfl
theorem i_150_96 : ins 150 96 = some (.imul, 97, 0, 0, 0, 0) := rfl
theorem i_150_97 : ins 150 97 = some (.iload 9, 99, 9, 0, 0, 0) := rfl
theorem i_150_99 : ins 150 99 = some (.iadd, 100, 0, 0, 0, 0) := rfl
theorem i_150_100 : ins 150 100 = some (.istore 10, 102, 10, 0, 0, 0) := rfl
theorem i_150_102 : ins 150 102 = some (.iload_n 3, 103, 3, 0, 0, 0) := rfl
theorem i_150_103 : ins 150 103 = some (.ifCond .eq 13, 106, 116, 0, 0, 0) := rfl
theorem i_150_106 : ins 150 106 = some (.aload_n 0, 107, 0, 0, 0, 0) := rfl
theorem i_150_107 : ins 150 107 = some (.getfield 105, 110, 7, 35, 0, 0) := rfl
theorem i_150_110 : ins 150 110 = some (.iload 10, 112, 10, 0, 0, 0) := rfl
theorem i_150_112 : ins 150 112 = some (.iaload, 113, 0, 0, 0, 0) := rfl
theorem i_150_113 : ins 150 113 = some (.goto 10, 116, 123, 0, 0, 0) := rfl
theorem i_150_123 : ins 150 123 = some (.istore 11, 125, 11, 0, 0, 0) := rfl
theorem i_150_125 : ins 150 125 = some (.iload_n 3, 126, 3, 0, 0, 0) := rfl
theorem i_150_126 : ins 150 126 = some (.ifCond .eq 20, 129, 146, 0, 0, 0) := rfl
theorem i_150_129 : ins 150 129 = some (.iload 11, 131, 11, 0, 0, 0) := rfl
theorem i_150_131 : ins 150 131 = some (.iload 4, 133, 4, 0, 0, 0) := rfl
theorem i_150_133 : ins 150 133 = some (.irem, 134, 0, 0, 0, 0) := rfl
theorem i_150_134 : ins 150 134 = some (.iload_n 2, 135, 2, 0, 0, 0) := rfl
theorem i_150_135 : ins 150 135 = some (.if_icmp .ne 7, 138, 142, 0, 0, 0) := rfl
theorem i_150_138 : ins 150 138 = some (.iconst 1, 139, 0, 0, 0, 1) := rfl
theorem i_150_139 : ins 150 139 = some (.goto 18, 142, 157, 0, 0, 0) := rfl
theorem i_150_142 : ins 150 142 = some (.iconst 0, 143, 0, 0, 0, 0) := rfl
theorem i_150_143 : ins 150 143 = some (.goto 14, 146, 157, 0, 0, 0) := rfl
theorem i_150_157 : ins 150 157 = some (.istore 12, 159, 12, 0, 0, 0) := rfl
theorem i_150_159 : ins 150 159 = some (.iload 12, 161, 12, 0, 0, 0) := rfl
theorem i_150_161 : ins 150 161 = some (.ifCond .ne 6, 164, 167, 0, 0, 0) := rfl
theorem i_150_164 : ins 150 164 = some (.goto 72, 167, 236, 0, 0, 0) := rfl
theorem i_150_167 : ins 150 167 = some (.aload_n 0, 168, 0, 0, 0, 0) := rfl
theorem i_150_168 : ins 150 168 = some (.iload 10, 170, 10, 0, 0, 0) := rfl
theorem i_150_170 : ins 150 170 = some (.invokevirtual 259, 173, 116, 0, 2, 0) := rfl
theorem i_150_173 : ins 150 173 = some (.ifCond .eq 8, 176, 181, 0, 0, 0) := rfl
theorem i_150_176 : ins 150 176 = some (.iload 8, 178, 8, 0, 0, 0) := rfl
theorem i_150_178 : ins 150 178 = some (.goto 5, 181, 183, 0, 0, 0) := rfl
theorem i_150_181 : ins 150 181 = some (.iload 7, 183, 7, 0, 0, 0) := rfl
theorem i_150_183 : ins 150 183 = some (.istore 13, 185, 13, 0, 0, 0) := rfl
theorem i_150_185 : ins 150 185 = some (.lload 5, 187, 5, 0, 0, 0) := rfl
theorem i_150_187 : ins 150 187 = some (.iload 9, 189, 9, 0, 0, 0) := rfl
theorem i_150_189 : ins 150 189 = some (.iconst 1, 190, 0, 0, 0, 1) := rfl
theorem i_150_190 : ins 150 190 = some (.iadd, 191, 0, 0, 0, 0) := rfl
theorem i_150_191 : ins 150 191 = some (.iload_n 3, 192, 3, 0, 0, 0) := rfl
theorem i_150_192 : ins 150 192 = some (.ifCond .eq 14, 195, 206, 0, 0, 0) := rfl
theorem i_150_195 : ins 150 195 = some (.bipush 16, 197, 0, 0, 0, 16) := rfl
theorem i_150_197 : ins 150 197 = some (.iload 11, 199, 11, 0, 0, 0) := rfl
theorem i_150_199 : ins 150 199 = some (.iload 4, 201, 4, 0, 0, 0) := rfl
theorem i_150_201 : ins 150 201 = some (.idiv, 202, 0, 0, 0, 0) := rfl
theorem i_150_202 : ins 150 202 = some (.imul, 203, 0, 0, 0, 0) := rfl
theorem i_150_203 : ins 150 203 = some (.goto 4, 206, 207, 0, 0, 0) := rfl
theorem i_150_207 : ins 150 207 = some (.iadd, 208, 0, 0, 0, 0) := rfl
theorem i_150_208 : ins 150 208 = some (.i2l, 209, 0, 0, 0, 0) := rfl
theorem i_150_209 : ins 150 209 = some (.bipush 8, 211, 0, 0, 0, 8) := rfl
theorem i_150_211 : ins 150 211 = some (.iload 13, 213, 13, 0, 0, 0) := rfl
theorem i_150_213 : ins 150 213 = some (.imul, 214, 0, 0, 0, 0) := rfl
theorem i_150_214 : ins 150 214 = some (.lshl, 215, 0, 0, 0, 0) := rfl
theorem i_150_215 : ins 150 215 = some (.lor, 216, 0, 0, 0, 0) := rfl
theorem i_150_216 : ins 150 216 = some (.lstore 5, 218, 5, 0, 0, 0) := rfl
theorem i_150_218 : ins 150 218 = some (.aload_n 0, 219, 0, 0, 0, 0) := rfl
theorem i_150_219 : ins 150 219 = some (.iload 10, 221, 10, 0, 0, 0) := rfl
theorem i_150_221 : ins 150 221 = some (.invokevirtual 259, 224, 116, 0, 2, 0) := rfl
theorem i_150_224 : ins 150 224 = some (.ifCond .eq 9, 227, 233, 0, 0, 0) := rfl
theorem i_150_227 : ins 150 227 = some (.iinc 8 1, 230, 8, 0, 0, 1) := rfl
theorem i_150_230 : ins 150 230 = some (.goto 6, 233, 236, 0, 0, 0) := rfl
theorem i_150_233 : ins 150 233 = some (.iinc 7 1, 236, 7, 0, 0, 1) := rfl
theorem i_150_236 : ins 150 236 = some (.iinc 9 1, 239, 9, 0, 0, 1) := rfl
theorem i_150_239 : ins 150 239 = some (.goto (-157), 242, 82, 0, 0, 0) := rfl
theorem i_150_242 : ins 150 242 = some (.lload 5, 244, 5, 0, 0, 0) := rfl
theorem i_150_244 : ins 150 244 = some (.lreturn, 245, 0, 0, 0, 0) := rfl
theorem S150_82 {Q : Ou → Prop} {M : Mem} {κ : Kp} (hκ : Rd κ) {x i n : Nat} {O : Op} {cl cm : Nat → Int32} (hx : x < 6) (hi : i ≤ n) (hn : n ≤ 10) (hc : M 151 x = nI n) (hcl : ∀ j, j < n → M 159 (10 * x + j) = cl j) (hcm : ∀ j, j < n → M 160 (10 * x + j) = cm j) (hO : ∀ f, f < 6 → ∀ j, j < n → M (152 + f) (10 * x + j) = O f j) {rr : Int32} {rows : Nat} {al : Int64} {oa : Nat} {op : Nat} (b_rows : rows ≤ 100000) (b_oa : oa ≤ 100000) (b_op : op ≤ 100000)
    (o1 : i < n → (if (rm (cm i) (nI rows)) = rr then true else false) = true → ¬ (nI rows) = 0)
    (o2 : i < n → ¬ (nI rows) = 0)
    (k1 : i < n → RT 150 (82, [.ref 134, .int (nI x), .int rr, .int 1, .int (nI rows), .long (if (if (rm (cm i) (nI rows)) = rr then true else false) = true then (al ||| ((((nI (i + 1)) + (16 * ((cm i) / (nI rows)))).toInt64) <<< ((nI (8 * (if (isP (O 0 i)) = true then op else oa))).toInt64 &&& 63))) else al), UU, .int (nI (if (if (rm (cm i) (nI rows)) = rr then true else false) = true then (if (isP (O 0 i)) = true then oa else (oa + 1)) else oa)), .int (nI (if (if (rm (cm i) (nI rows)) = rr then true else false) = true then (if (isP (O 0 i)) = true then (op + 1) else op) else op)), .int (nI (i + 1)), UU, UU, UU, UU], [], M, κ) Q)
    (k2 : ¬ (i < n) → Q (.inl (some (.long al)), M, κ))
    : RT 150 (82, [.ref 134, .int (nI x), .int rr, .int 1, .int (nI rows), .long al, UU, .int (nI oa), .int (nI op), .int (nI i), UU, UU, UU, UU], [], M, κ) Q := by
  refine w_load i_150_82 rfl rfl ?_
  refine w_load i_150_84 rfl rfl ?_
  refine w_getR 151 i_150_85 hκ (⟨rfl, by decide⟩ : isOb 134 7) rfl rfl ?_
  refine w_load i_150_88 rfl rfl ?_
  refine w_ialdN (e := x) (v := (nI n)) i_150_89 hκ (⟨rfl, rfl, by decide⟩ : isAr 151 6) (by omega) (by decide) (hc) ?_
  refine w_if2n (i < n) i_150_90 (cN_ge (a := i) (b := n) (by omega) (by omega)) ?_ ?_
  · intro h1
    refine w_push i_150_93 rfl ?_
    refine w_load i_150_95 rfl rfl ?_
    refine w_bin (w := (nI (10 * x))) i_150_96 rfl (nI_mul 10 x) ?_
    refine w_load i_150_97 rfl rfl ?_
    refine w_bin (w := (nI ((10 * x) + i))) i_150_99 rfl (nI_add (10 * x) i) ?_
    refine w_store (l1 := [.ref 134, .int (nI x), .int rr, .int 1, .int (nI rows), .long al, UU, .int (nI oa), .int (nI op), .int (nI i), .int (nI ((10 * x) + i)), UU, UU, UU]) i_150_100 rfl (Nat.le_of_ble_eq_true rfl) rfl ?_
    refine w_load i_150_102 rfl rfl ?_
    refine w_if0 ((1 : Int32) = 0) i_150_103 cI0_eq ?_ ?_
    · intro h2
      exact absurd h2 (by decide)
    · intro h3
      refine w_load i_150_106 rfl rfl ?_
      refine w_getR 160 i_150_107 hκ (⟨rfl, by decide⟩ : isOb 134 7) rfl rfl ?_
      refine w_load i_150_110 rfl rfl ?_
      refine w_ialdN (e := ((10 * x) + i)) (v := (cm i)) i_150_112 hκ (⟨rfl, rfl, by decide⟩ : isAr 160 60) (by omega) (by decide) (hcm i (by omega)) ?_
      refine w_goto i_150_113 ?_
      refine w_store (l1 := [.ref 134, .int (nI x), .int rr, .int 1, .int (nI rows), .long al, UU, .int (nI oa), .int (nI op), .int (nI i), .int (nI ((10 * x) + i)), .int (cm i), UU, UU]) i_150_123 rfl (Nat.le_of_ble_eq_true rfl) rfl ?_
      refine w_load i_150_125 rfl rfl ?_
      have K4 : RT 150 (157, [.ref 134, .int (nI x), .int rr, .int 1, .int (nI rows), .long al, UU, .int (nI oa), .int (nI op), .int (nI i), .int (nI ((10 * x) + i)), .int (cm i), UU, UU], [.int (bI (if (rm (cm i) (nI rows)) = rr then true else false))], M, κ) Q := by
        refine w_store (l1 := [.ref 134, .int (nI x), .int rr, .int 1, .int (nI rows), .long al, UU, .int (nI oa), .int (nI op), .int (nI i), .int (nI ((10 * x) + i)), .int (cm i), .int (bI (if (rm (cm i) (nI rows)) = rr then true else false)), UU]) i_150_157 rfl (Nat.le_of_ble_eq_true rfl) rfl ?_
        refine w_load i_150_159 rfl rfl ?_
        have K5 : RT 150 (236, [.ref 134, .int (nI x), .int rr, .int 1, .int (nI rows), .long (if (if (rm (cm i) (nI rows)) = rr then true else false) = true then (al ||| ((((nI (i + 1)) + (16 * ((cm i) / (nI rows)))).toInt64) <<< ((nI (8 * (if (isP (O 0 i)) = true then op else oa))).toInt64 &&& 63))) else al), UU, .int (nI (if (if (rm (cm i) (nI rows)) = rr then true else false) = true then (if (isP (O 0 i)) = true then oa else (oa + 1)) else oa)), .int (nI (if (if (rm (cm i) (nI rows)) = rr then true else false) = true then (if (isP (O 0 i)) = true then (op + 1) else op) else op)), .int (nI i), .int (nI ((10 * x) + i)), .int (cm i), .int (bI (if (rm (cm i) (nI rows)) = rr then true else false)), UU], [], M, κ) Q := by
          refine w_iincN (n := i) (l1 := [.ref 134, .int (nI x), .int rr, .int 1, .int (nI rows), .long (if (if (rm (cm i) (nI rows)) = rr then true else false) = true then (al ||| ((((nI (i + 1)) + (16 * ((cm i) / (nI rows)))).toInt64) <<< ((nI (8 * (if (isP (O 0 i)) = true then op else oa))).toInt64 &&& 63))) else al), UU, .int (nI (if (if (rm (cm i) (nI rows)) = rr then true else false) = true then (if (isP (O 0 i)) = true then oa else (oa + 1)) else oa)), .int (nI (if (if (rm (cm i) (nI rows)) = rr then true else false) = true then (if (isP (O 0 i)) = true then (op + 1) else op) else op)), .int (nI (i + 1)), .int (nI ((10 * x) + i)), .int (cm i), .int (bI (if (rm (cm i) (nI rows)) = rr then true else false)), UU]) 1 i_150_236 rfl rfl ?_
          refine w_goto i_150_239 ?_
          exact w_weak (lle_s (lle_s (lle_s (lle_s (lle_s (lle_s (lle_s (lle_s (lle_s (lle_s (lle_u (lle_u (lle_u (lle_s lle_n)))))))))))))) (k1 h1)
        refine w_if0 ((if (rm (cm i) (nI rows)) = rr then true else false) = true) i_150_161 cB_ne ?_ ?_
        · intro h6
          refine w_load i_150_167 rfl rfl ?_
          refine w_load i_150_168 rfl rfl ?_
          refine w_callV (i := _) i_150_170 ⟨by decide, by decide, by decide, rfl⟩ hκ (⟨rfl, by decide⟩ : isOb 134 7) (av := [.int (nI ((10 * x) + i))]) (rest := []) rfl rfl (Nat.le_of_ble_eq_true rfl) (v := some (.int (bI (isP (O 0 i))))) (c116 hκ (by omega) (hO 0 (by decide) i (by omega))) ?_
          have K7 : RT 150 (183, [.ref 134, .int (nI x), .int rr, .int 1, .int (nI rows), .long al, UU, .int (nI oa), .int (nI op), .int (nI i), .int (nI ((10 * x) + i)), .int (cm i), .int (bI (if (rm (cm i) (nI rows)) = rr then true else false)), UU], [.int (nI (if (isP (O 0 i)) = true then op else oa))], M, κ) Q := by
            refine w_store (l1 := [.ref 134, .int (nI x), .int rr, .int 1, .int (nI rows), .long al, UU, .int (nI oa), .int (nI op), .int (nI i), .int (nI ((10 * x) + i)), .int (cm i), .int (bI (if (rm (cm i) (nI rows)) = rr then true else false)), .int (nI (if (isP (O 0 i)) = true then op else oa))]) i_150_183 rfl (Nat.le_of_ble_eq_true rfl) rfl ?_
            refine w_load i_150_185 rfl rfl ?_
            refine w_load i_150_187 rfl rfl ?_
            refine w_push i_150_189 rfl ?_
            refine w_bin (w := (nI (i + 1))) i_150_190 rfl (nI_add i 1) ?_
            refine w_load i_150_191 rfl rfl ?_
            refine w_if0 ((1 : Int32) = 0) i_150_192 cI0_eq ?_ ?_
            · intro h8
              exact absurd h8 (by decide)
            · intro h9
              refine w_push i_150_195 rfl ?_
              refine w_load i_150_197 rfl rfl ?_
              refine w_load i_150_199 rfl rfl ?_
              refine w_div (w := ((cm i) / (nI rows))) i_150_201 rfl (o1 h1 h6) rfl ?_
              refine w_bin (w := (16 * ((cm i) / (nI rows)))) i_150_202 rfl rfl ?_
              refine w_goto i_150_203 ?_
              refine w_bin (w := ((nI (i + 1)) + (16 * ((cm i) / (nI rows))))) i_150_207 rfl rfl ?_
              refine w_i2l i_150_208 ?_
              refine w_push i_150_209 rfl ?_
              refine w_load i_150_211 rfl rfl ?_
              refine w_bin (w := (nI (8 * (if (isP (O 0 i)) = true then op else oa)))) i_150_213 rfl (nI_mul 8 (if (isP (O 0 i)) = true then op else oa)) ?_
              refine w_lshl i_150_214 ?_
              refine w_lor i_150_215 ?_
              refine w_store (l1 := [.ref 134, .int (nI x), .int rr, .int 1, .int (nI rows), .long (al ||| ((((nI (i + 1)) + (16 * ((cm i) / (nI rows)))).toInt64) <<< ((nI (8 * (if (isP (O 0 i)) = true then op else oa))).toInt64 &&& 63))), UU, .int (nI oa), .int (nI op), .int (nI i), .int (nI ((10 * x) + i)), .int (cm i), .int (bI (if (rm (cm i) (nI rows)) = rr then true else false)), .int (nI (if (isP (O 0 i)) = true then op else oa))]) i_150_216 rfl (Nat.le_of_ble_eq_true rfl) rfl ?_
              refine w_load i_150_218 rfl rfl ?_
              refine w_load i_150_219 rfl rfl ?_
              refine w_callV (i := _) i_150_221 ⟨by decide, by decide, by decide, rfl⟩ hκ (⟨rfl, by decide⟩ : isOb 134 7) (av := [.int (nI ((10 * x) + i))]) (rest := []) rfl rfl (Nat.le_of_ble_eq_true rfl) (v := some (.int (bI (isP (O 0 i))))) (c116 hκ (by omega) (hO 0 (by decide) i (by omega))) ?_
              refine w_if0n ((isP (O 0 i)) = true) i_150_224 cB_eq ?_ ?_
              · intro h10
                refine w_iincN (n := op) (l1 := [.ref 134, .int (nI x), .int rr, .int 1, .int (nI rows), .long (al ||| ((((nI (i + 1)) + (16 * ((cm i) / (nI rows)))).toInt64) <<< ((nI (8 * (if (isP (O 0 i)) = true then op else oa))).toInt64 &&& 63))), UU, .int (nI oa), .int (nI (op + 1)), .int (nI i), .int (nI ((10 * x) + i)), .int (cm i), .int (bI (if (rm (cm i) (nI rows)) = rr then true else false)), .int (nI (if (isP (O 0 i)) = true then op else oa))]) 1 i_150_227 rfl rfl ?_
                refine w_goto i_150_230 ?_
                exact (by first | exact w_weak (lle_s (lle_s (lle_s (lle_s (lle_s (lle_s (lle_s (lle_s (lle_s (lle_s (lle_s (lle_s (lle_s (lle_u lle_n)))))))))))))) (K5) | (have K9 := K5; simp only [↓if_pos h6, ↓if_pos h10] at K9 ⊢; exact w_weak (lle_s (lle_s (lle_s (lle_s (lle_s (lle_s (lle_s (lle_s (lle_s (lle_s (lle_s (lle_s (lle_s (lle_u lle_n)))))))))))))) (K9)))
              · intro h11
                refine w_iincN (n := oa) (l1 := [.ref 134, .int (nI x), .int rr, .int 1, .int (nI rows), .long (al ||| ((((nI (i + 1)) + (16 * ((cm i) / (nI rows)))).toInt64) <<< ((nI (8 * (if (isP (O 0 i)) = true then op else oa))).toInt64 &&& 63))), UU, .int (nI (oa + 1)), .int (nI op), .int (nI i), .int (nI ((10 * x) + i)), .int (cm i), .int (bI (if (rm (cm i) (nI rows)) = rr then true else false)), .int (nI (if (isP (O 0 i)) = true then op else oa))]) 1 i_150_233 rfl rfl ?_
                exact (by first | exact w_weak (lle_s (lle_s (lle_s (lle_s (lle_s (lle_s (lle_s (lle_s (lle_s (lle_s (lle_s (lle_s (lle_s (lle_u lle_n)))))))))))))) (K5) | (have K9 := K5; simp only [↓if_pos h6, ↓if_neg h11] at K9 ⊢; exact w_weak (lle_s (lle_s (lle_s (lle_s (lle_s (lle_s (lle_s (lle_s (lle_s (lle_s (lle_s (lle_s (lle_s (lle_u lle_n)))))))))))))) (K9)))
          refine w_if0n ((isP (O 0 i)) = true) i_150_173 cB_eq ?_ ?_
          · intro h12
            refine w_load i_150_176 rfl rfl ?_
            refine w_goto i_150_178 ?_
            exact (by first | exact (K7) | (have K9 := K7; simp only [↓if_pos h12] at K9 ⊢; exact (K9)))
          · intro h13
            refine w_load i_150_181 rfl rfl ?_
            exact (by first | exact (K7) | (have K9 := K7; simp only [↓if_neg h13] at K9 ⊢; exact (K9)))
        · intro h14
          refine w_goto i_150_164 ?_
          exact (by first | exact (K5) | (have K9 := K5; simp only [↓if_neg h14] at K9 ⊢; exact (K9)))
      refine w_if0 ((1 : Int32) = 0) i_150_126 cI0_eq ?_ ?_
      · intro h15
        exact absurd h15 (by decide)
      · intro h16
        refine w_load i_150_129 rfl rfl ?_
        refine w_load i_150_131 rfl rfl ?_
        refine w_div (w := (rm (cm i) (nI rows))) i_150_133 rfl (o2 h1) rfl ?_
        refine w_load i_150_134 rfl rfl ?_
        refine w_if2n ((rm (cm i) (nI rows)) = rr) i_150_135 cI_ne ?_ ?_
        · intro h17
          refine w_push i_150_138 rfl ?_
          refine w_goto i_150_139 ?_
          exact (by first | exact (K4) | (have K9 := K4; simp only [↓if_pos h17] at K9 ⊢; exact (K9)))
        · intro h18
          refine w_push i_150_142 rfl ?_
          refine w_goto i_150_143 ?_
          exact (by first | exact (K4) | (have K9 := K4; simp only [↓if_neg h18] at K9 ⊢; exact (K9)))
  · intro h19
    refine w_load i_150_242 rfl rfl ?_
    exact w_lret i_150_244 rfl (k2 h19)
theorem i_150_116 : ins 150 116 = some (.aload_n 0, 117, 0, 0, 0, 0) := rfl
theorem i_150_117 : ins 150 117 = some (.getfield 102, 120, 7, 34, 0, 0) := rfl
theorem i_150_120 : ins 150 120 = some (.iload 10, 122, 10, 0, 0, 0) := rfl
theorem i_150_122 : ins 150 122 = some (.iaload, 123, 0, 0, 0, 0) := rfl
theorem i_150_146 : ins 150 146 = some (.iload 11, 148, 11, 0, 0, 0) := rfl
theorem i_150_148 : ins 150 148 = some (.iload_n 2, 149, 2, 0, 0, 0) := rfl
theorem i_150_149 : ins 150 149 = some (.if_icmp .ne 7, 152, 156, 0, 0, 0) := rfl
theorem i_150_152 : ins 150 152 = some (.iconst 1, 153, 0, 0, 0, 1) := rfl
theorem i_150_153 : ins 150 153 = some (.goto 4, 156, 157, 0, 0, 0) := rfl
theorem i_150_156 : ins 150 156 = some (.iconst 0, 157, 0, 0, 0, 0) := rfl
theorem i_150_206 : ins 150 206 = some (.iconst 0, 207, 0, 0, 0, 0) := rfl
theorem L150_82 {Q : Ou → Prop} {M : Mem} {κ : Kp} (hκ : Rd κ) {x i n : Nat} {O : Op} {cl cm : Nat → Int32} (hx : x < 6) (hi : i ≤ n) (hn : n ≤ 10) (hc : M 151 x = nI n) (hcl : ∀ j, j < n → M 159 (10 * x + j) = cl j) (hcm : ∀ j, j < n → M 160 (10 * x + j) = cm j) (hO : ∀ f, f < 6 → ∀ j, j < n → M (152 + f) (10 * x + j) = O f j) {rr : Int32} {rows : Nat} {al : Int64} {oa : Nat} {op : Nat} (b_rows : rows ≤ 100000) (b_oa : oa ≤ 100000) (b_op : op ≤ 100000)
    (k1 : i < n → RT 150 (82, [.ref 134, .int (nI x), .int rr, .int 0, .int (nI rows), .long (if (if (cl i) = rr then true else false) = true then (al ||| (((nI ((i + 1) + 0)).toInt64) <<< ((nI (8 * (if (isP (O 0 i)) = true then op else oa))).toInt64 &&& 63))) else al), UU, .int (nI (if (if (cl i) = rr then true else false) = true then (if (isP (O 0 i)) = true then oa else (oa + 1)) else oa)), .int (nI (if (if (cl i) = rr then true else false) = true then (if (isP (O 0 i)) = true then (op + 1) else op) else op)), .int (nI (i + 1)), UU, UU, UU, UU], [], M, κ) Q)
    (k2 : ¬ (i < n) → Q (.inl (some (.long al)), M, κ))
    : RT 150 (82, [.ref 134, .int (nI x), .int rr, .int 0, .int (nI rows), .long al, UU, .int (nI oa), .int (nI op), .int (nI i), UU, UU, UU, UU], [], M, κ) Q := by
  refine w_load i_150_82 rfl rfl ?_
  refine w_load i_150_84 rfl rfl ?_
  refine w_getR 151 i_150_85 hκ (⟨rfl, by decide⟩ : isOb 134 7) rfl rfl ?_
  refine w_load i_150_88 rfl rfl ?_
  refine w_ialdN (e := x) (v := (nI n)) i_150_89 hκ (⟨rfl, rfl, by decide⟩ : isAr 151 6) (by omega) (by decide) (hc) ?_
  refine w_if2n (i < n) i_150_90 (cN_ge (a := i) (b := n) (by omega) (by omega)) ?_ ?_
  · intro h1
    refine w_push i_150_93 rfl ?_
    refine w_load i_150_95 rfl rfl ?_
    refine w_bin (w := (nI (10 * x))) i_150_96 rfl (nI_mul 10 x) ?_
    refine w_load i_150_97 rfl rfl ?_
    refine w_bin (w := (nI ((10 * x) + i))) i_150_99 rfl (nI_add (10 * x) i) ?_
    refine w_store (l1 := [.ref 134, .int (nI x), .int rr, .int 0, .int (nI rows), .long al, UU, .int (nI oa), .int (nI op), .int (nI i), .int (nI ((10 * x) + i)), UU, UU, UU]) i_150_100 rfl (Nat.le_of_ble_eq_true rfl) rfl ?_
    refine w_load i_150_102 rfl rfl ?_
    refine w_if0 ((0 : Int32) = 0) i_150_103 cI0_eq ?_ ?_
    · intro h2
      refine w_load i_150_116 rfl rfl ?_
      refine w_getR 159 i_150_117 hκ (⟨rfl, by decide⟩ : isOb 134 7) rfl rfl ?_
      refine w_load i_150_120 rfl rfl ?_
      refine w_ialdN (e := ((10 * x) + i)) (v := (cl i)) i_150_122 hκ (⟨rfl, rfl, by decide⟩ : isAr 159 60) (by omega) (by decide) (hcl i (by omega)) ?_
      refine w_store (l1 := [.ref 134, .int (nI x), .int rr, .int 0, .int (nI rows), .long al, UU, .int (nI oa), .int (nI op), .int (nI i), .int (nI ((10 * x) + i)), .int (cl i), UU, UU]) i_150_123 rfl (Nat.le_of_ble_eq_true rfl) rfl ?_
      refine w_load i_150_125 rfl rfl ?_
      have K3 : RT 150 (157, [.ref 134, .int (nI x), .int rr, .int 0, .int (nI rows), .long al, UU, .int (nI oa), .int (nI op), .int (nI i), .int (nI ((10 * x) + i)), .int (cl i), UU, UU], [.int (bI (if (cl i) = rr then true else false))], M, κ) Q := by
        refine w_store (l1 := [.ref 134, .int (nI x), .int rr, .int 0, .int (nI rows), .long al, UU, .int (nI oa), .int (nI op), .int (nI i), .int (nI ((10 * x) + i)), .int (cl i), .int (bI (if (cl i) = rr then true else false)), UU]) i_150_157 rfl (Nat.le_of_ble_eq_true rfl) rfl ?_
        refine w_load i_150_159 rfl rfl ?_
        have K4 : RT 150 (236, [.ref 134, .int (nI x), .int rr, .int 0, .int (nI rows), .long (if (if (cl i) = rr then true else false) = true then (al ||| (((nI ((i + 1) + 0)).toInt64) <<< ((nI (8 * (if (isP (O 0 i)) = true then op else oa))).toInt64 &&& 63))) else al), UU, .int (nI (if (if (cl i) = rr then true else false) = true then (if (isP (O 0 i)) = true then oa else (oa + 1)) else oa)), .int (nI (if (if (cl i) = rr then true else false) = true then (if (isP (O 0 i)) = true then (op + 1) else op) else op)), .int (nI i), .int (nI ((10 * x) + i)), .int (cl i), .int (bI (if (cl i) = rr then true else false)), UU], [], M, κ) Q := by
          refine w_iincN (n := i) (l1 := [.ref 134, .int (nI x), .int rr, .int 0, .int (nI rows), .long (if (if (cl i) = rr then true else false) = true then (al ||| (((nI ((i + 1) + 0)).toInt64) <<< ((nI (8 * (if (isP (O 0 i)) = true then op else oa))).toInt64 &&& 63))) else al), UU, .int (nI (if (if (cl i) = rr then true else false) = true then (if (isP (O 0 i)) = true then oa else (oa + 1)) else oa)), .int (nI (if (if (cl i) = rr then true else false) = true then (if (isP (O 0 i)) = true then (op + 1) else op) else op)), .int (nI (i + 1)), .int (nI ((10 * x) + i)), .int (cl i), .int (bI (if (cl i) = rr then true else false)), UU]) 1 i_150_236 rfl rfl ?_
          refine w_goto i_150_239 ?_
          exact w_weak (lle_s (lle_s (lle_s (lle_s (lle_s (lle_s (lle_s (lle_s (lle_s (lle_s (lle_u (lle_u (lle_u (lle_s lle_n)))))))))))))) (k1 h1)
        refine w_if0 ((if (cl i) = rr then true else false) = true) i_150_161 cB_ne ?_ ?_
        · intro h5
          refine w_load i_150_167 rfl rfl ?_
          refine w_load i_150_168 rfl rfl ?_
          refine w_callV (i := _) i_150_170 ⟨by decide, by decide, by decide, rfl⟩ hκ (⟨rfl, by decide⟩ : isOb 134 7) (av := [.int (nI ((10 * x) + i))]) (rest := []) rfl rfl (Nat.le_of_ble_eq_true rfl) (v := some (.int (bI (isP (O 0 i))))) (c116 hκ (by omega) (hO 0 (by decide) i (by omega))) ?_
          have K6 : RT 150 (183, [.ref 134, .int (nI x), .int rr, .int 0, .int (nI rows), .long al, UU, .int (nI oa), .int (nI op), .int (nI i), .int (nI ((10 * x) + i)), .int (cl i), .int (bI (if (cl i) = rr then true else false)), UU], [.int (nI (if (isP (O 0 i)) = true then op else oa))], M, κ) Q := by
            refine w_store (l1 := [.ref 134, .int (nI x), .int rr, .int 0, .int (nI rows), .long al, UU, .int (nI oa), .int (nI op), .int (nI i), .int (nI ((10 * x) + i)), .int (cl i), .int (bI (if (cl i) = rr then true else false)), .int (nI (if (isP (O 0 i)) = true then op else oa))]) i_150_183 rfl (Nat.le_of_ble_eq_true rfl) rfl ?_
            refine w_load i_150_185 rfl rfl ?_
            refine w_load i_150_187 rfl rfl ?_
            refine w_push i_150_189 rfl ?_
            refine w_bin (w := (nI (i + 1))) i_150_190 rfl (nI_add i 1) ?_
            refine w_load i_150_191 rfl rfl ?_
            refine w_if0 ((0 : Int32) = 0) i_150_192 cI0_eq ?_ ?_
            · intro h7
              refine w_push i_150_206 rfl ?_
              refine w_bin (w := (nI ((i + 1) + 0))) i_150_207 rfl (nI_add (i + 1) 0) ?_
              refine w_i2l i_150_208 ?_
              refine w_push i_150_209 rfl ?_
              refine w_load i_150_211 rfl rfl ?_
              refine w_bin (w := (nI (8 * (if (isP (O 0 i)) = true then op else oa)))) i_150_213 rfl (nI_mul 8 (if (isP (O 0 i)) = true then op else oa)) ?_
              refine w_lshl i_150_214 ?_
              refine w_lor i_150_215 ?_
              refine w_store (l1 := [.ref 134, .int (nI x), .int rr, .int 0, .int (nI rows), .long (al ||| (((nI ((i + 1) + 0)).toInt64) <<< ((nI (8 * (if (isP (O 0 i)) = true then op else oa))).toInt64 &&& 63))), UU, .int (nI oa), .int (nI op), .int (nI i), .int (nI ((10 * x) + i)), .int (cl i), .int (bI (if (cl i) = rr then true else false)), .int (nI (if (isP (O 0 i)) = true then op else oa))]) i_150_216 rfl (Nat.le_of_ble_eq_true rfl) rfl ?_
              refine w_load i_150_218 rfl rfl ?_
              refine w_load i_150_219 rfl rfl ?_
              refine w_callV (i := _) i_150_221 ⟨by decide, by decide, by decide, rfl⟩ hκ (⟨rfl, by decide⟩ : isOb 134 7) (av := [.int (nI ((10 * x) + i))]) (rest := []) rfl rfl (Nat.le_of_ble_eq_true rfl) (v := some (.int (bI (isP (O 0 i))))) (c116 hκ (by omega) (hO 0 (by decide) i (by omega))) ?_
              refine w_if0n ((isP (O 0 i)) = true) i_150_224 cB_eq ?_ ?_
              · intro h8
                refine w_iincN (n := op) (l1 := [.ref 134, .int (nI x), .int rr, .int 0, .int (nI rows), .long (al ||| (((nI ((i + 1) + 0)).toInt64) <<< ((nI (8 * (if (isP (O 0 i)) = true then op else oa))).toInt64 &&& 63))), UU, .int (nI oa), .int (nI (op + 1)), .int (nI i), .int (nI ((10 * x) + i)), .int (cl i), .int (bI (if (cl i) = rr then true else false)), .int (nI (if (isP (O 0 i)) = true then op else oa))]) 1 i_150_227 rfl rfl ?_
                refine w_goto i_150_230 ?_
                exact (by first | exact w_weak (lle_s (lle_s (lle_s (lle_s (lle_s (lle_s (lle_s (lle_s (lle_s (lle_s (lle_s (lle_s (lle_s (lle_u lle_n)))))))))))))) (K4) | (have K9 := K4; simp only [↓if_pos h5, ↓if_pos h8] at K9 ⊢; exact w_weak (lle_s (lle_s (lle_s (lle_s (lle_s (lle_s (lle_s (lle_s (lle_s (lle_s (lle_s (lle_s (lle_s (lle_u lle_n)))))))))))))) (K9)))
              · intro h9
                refine w_iincN (n := oa) (l1 := [.ref 134, .int (nI x), .int rr, .int 0, .int (nI rows), .long (al ||| (((nI ((i + 1) + 0)).toInt64) <<< ((nI (8 * (if (isP (O 0 i)) = true then op else oa))).toInt64 &&& 63))), UU, .int (nI (oa + 1)), .int (nI op), .int (nI i), .int (nI ((10 * x) + i)), .int (cl i), .int (bI (if (cl i) = rr then true else false)), .int (nI (if (isP (O 0 i)) = true then op else oa))]) 1 i_150_233 rfl rfl ?_
                exact (by first | exact w_weak (lle_s (lle_s (lle_s (lle_s (lle_s (lle_s (lle_s (lle_s (lle_s (lle_s (lle_s (lle_s (lle_s (lle_u lle_n)))))))))))))) (K4) | (have K9 := K4; simp only [↓if_pos h5, ↓if_neg h9] at K9 ⊢; exact w_weak (lle_s (lle_s (lle_s (lle_s (lle_s (lle_s (lle_s (lle_s (lle_s (lle_s (lle_s (lle_s (lle_s (lle_u lle_n)))))))))))))) (K9)))
            · intro h10
              exact absurd (by decide) h10
          refine w_if0n ((isP (O 0 i)) = true) i_150_173 cB_eq ?_ ?_
          · intro h11
            refine w_load i_150_176 rfl rfl ?_
            refine w_goto i_150_178 ?_
            exact (by first | exact (K6) | (have K9 := K6; simp only [↓if_pos h11] at K9 ⊢; exact (K9)))
          · intro h12
            refine w_load i_150_181 rfl rfl ?_
            exact (by first | exact (K6) | (have K9 := K6; simp only [↓if_neg h12] at K9 ⊢; exact (K9)))
        · intro h13
          refine w_goto i_150_164 ?_
          exact (by first | exact (K4) | (have K9 := K4; simp only [↓if_neg h13] at K9 ⊢; exact (K9)))
      refine w_if0 ((0 : Int32) = 0) i_150_126 cI0_eq ?_ ?_
      · intro h14
        refine w_load i_150_146 rfl rfl ?_
        refine w_load i_150_148 rfl rfl ?_
        refine w_if2n ((cl i) = rr) i_150_149 cI_ne ?_ ?_
        · intro h15
          refine w_push i_150_152 rfl ?_
          refine w_goto i_150_153 ?_
          exact (by first | exact (K3) | (have K9 := K3; simp only [↓if_pos h15] at K9 ⊢; exact (K9)))
        · intro h16
          refine w_push i_150_156 rfl ?_
          exact (by first | exact (K3) | (have K9 := K3; simp only [↓if_neg h16] at K9 ⊢; exact (K9)))
      · intro h17
        exact absurd (by decide) h17
    · intro h18
      exact absurd (by decide) h18
  · intro h19
    refine w_load i_150_242 rfl rfl ?_
    exact w_lret i_150_244 rfl (k2 h19)
variable {Q : Ou → Prop} {M M0 : Mem} {κ : Kp}
/-- the word of a bundle -/
def pkT (O : Op) (v : Int32) (k : Nat) (s : Int64 × Nat × Nat) : Int64 × Nat × Nat := (s.1 ||| (v.toInt64 <<< ((nI (8 * (if (isP (O 0 k)) = true then s.2.2 else s.2.1))).toInt64 &&& 63)), if (isP (O 0 k)) = true then s.2.1 else s.2.1 + 1, if (isP (O 0 k)) = true then s.2.2 + 1 else s.2.2)
def pkS (O : Op) (c : Nat → Int32) (R rr : Int32) : Nat → Int64 × Nat × Nat
  | 0 => (0, 0, 4)
  | k + 1 => if rmF (c k) R = rr then pkT O (nI (k + 1) + 16 * dvF (c k) R) k (pkS O c R rr k) else pkS O c R rr k
section PK
variable {O : Op} {c : Nat → Int32} {R rr : Int32} {n k x b p ca : Nat}
theorem pkS_suc (k : Nat) : pkS O c R rr (k + 1) = if rmF (c k) R = rr then pkT O (nI (k + 1) + 16 * dvF (c k) R) k (pkS O c R rr k) else pkS O c R rr k := rfl
theorem pkS_le : ∀ k, (pkS O c R rr k).2.1 ≤ k ∧ (pkS O c R rr k).2.2 ≤ k + 4 := fun k => by
  induction k with
  | zero => exact ⟨Nat.le_refl _, Nat.le_refl _⟩
  | succ k ih =>
    rw [pkS_suc]
    split
    · unfold pkT
      dsimp only
      split <;> omega
    · omega
theorem f61 (hκ : Rd κ) (hp : isPl p) (hb : isBl b) (hca : isAr ca 10) (hn : n ≤ 10) (hc : M b 4 = nI n) (hcy : ∀ j, j < n → M ca j = c j) (hO : ∀ f, f < 6 → ∀ j, j < n → M (b + 1 + f) j = O f j) (K : Q (.inl (some (.long (pkS O c R rr n).1)), M, κ)) : RT 61 (0, entL 61 [.ref p, .ref b, .ref ca, .int R, .int rr], [], M, κ) Q := by
  refine S61_0 hκ hp hb hca ?_
  have key : ∀ d k, k + d = n → RT 61 (12, [UU, .ref b, .ref ca, .int R, .int rr, .long (pkS O c R rr k).1, UU, .int (nI (pkS O c R rr k).2.1), .int (nI (pkS O c R rr k).2.2), .int (nI k), UU, UU], [], M, κ) Q := fun d => by
    induction d with
    | zero =>
      intro k hk
      have e : k = n := hk
      have h := pkS_le (O := O) (c := c) (R := R) (rr := rr) k
      refine S61_12 hκ hp hb hca (by omega) hn hc hcy hO (by omega) (by omega) (fun z => absurd z (by omega)) (fun _ => ?_)
      rw [e]
      exact K
    | succ d ih =>
      intro k hk
      have h := pkS_le (O := O) (c := c) (R := R) (rr := rr) k
      refine S61_12 hκ hp hb hca (by omega) hn hc hcy hO (by omega) (by omega) (fun _ => ?_) (fun z => absurd (by omega) z)
      have hI := ih (k + 1) (by omega)
      rw [pkS_suc] at hI
      by_cases q : rmF (c k) R = rr
      · simp only [if_pos q] at hI ⊢
        exact hI
      · simp only [if_neg q] at hI ⊢
        exact hI
  exact key n 0 (by omega)
theorem rmF_lt {a b : Nat} (h : a < b) (hb : b ≤ 1000) : rmF (nI a) (nI b) = nI a ∧ dvF (nI a) (nI b) = 0 := by
  have hpos : 0 < nI b := by
    rw [ltI, c0, nI_toInt (by omega)]
    omega
  have hd : nI a / nI b = 0 := by
    rw [nI_div (by omega) (by omega), Nat.div_eq_of_lt h]
    rfl
  unfold rmF dvF rm
  rw [if_pos hpos, if_pos hpos, hd]
  exact ⟨by rw [Int32.zero_mul, Int32.sub_zero], rfl⟩
end PK
section BN
variable {g : Gs} {mp : Mp} {cf : Bool} {tu : Nat} {tr : Bool} {r : Rs} {M' : Mem} {xx kk wh rr : Int32} {md : Bool} {qq : Nat → Pq}
def rwB (q : Pq) (md : Bool) : Nat := if md = true then q.2.1 else q.1
def cyW (q : Pq) (md : Bool) (k : Nat) : Int32 := nI (if md = true then q.2.2.2.2.2 k else q.2.2.2.2.1 k)
def bnS (g : Gs) (q : Pq) (x : Nat) (md : Bool) (rr : Int32) : Int64 := (pkS ((s1 g).2.2.2.2 x) (cyW q md) (nI (rwB q md)) rr ((s1 g).2.2.1 x)).1
def okW (q : Pq) (md : Bool) (rr : Int32) : Bool := decide (0 ≤ rr.toInt ∧ rr.toInt < rwB q md)
theorem F78 (hκ : Rd κ) (hg : GOk g) (hI : CI g mp cf tu tr r M) (hq : cf = true → ∀ x, x < gN g → (s1 g).2.2.2.1 x = false → PN M ((s1 g).1 x) ((s1 g).2.2.1 x) (LtO mp ((s1 g).2.2.2.2 x)) (19 + 18 * x) (qq x)) (K1 : cf = false → Q (.inr 1, M, kT κ)) (K2 : cf = true → okX g xx = false → Q (.inr 4, M, kT κ)) (K3 : cf = true → okX g xx = true → okW (qq xx.toInt.toNat) md rr = false → Q (.inr 2, M, kT κ)) (K4 : cf = true → okX g xx = true → okW (qq xx.toInt.toNat) md rr = true → Q (.inl (some (.long (bnS g (qq xx.toInt.toNat) xx.toInt.toNat md rr))), M, κ)) : RT 78 (0, entL 78 [.ref 0, .int xx, .int rr, .int (bI md)], [], M, κ) Q := by
  refine S78_0 hκ (F80 hκ hg hI (fun a => .inr ⟨_, _, _, rfl, K1 a⟩) (fun a b => .inr ⟨_, _, _, rfl, K2 a b⟩) (fun a b => .inl ⟨_, _, _, rfl, ?_⟩))
  obtain ⟨o, o2, h1, h2, h3, h4, h5, h6', h7, h8, h9, ha, hb, hc⟩ := hI
  obtain ⟨q1, q2⟩ := okX_iff.mp b
  have h6 := hg.1
  obtain ⟨d0, d1, d2, d3, d4, d5, d6⟩ := (hc a).2.2.1 xx.toInt.toNat (by omega)
  have hs := ((SIv1 hg (hc a).2.1).1 xx.toInt.toNat (by omega)).2.2.2.2.1
  have ex : xx = nI xx.toInt.toNat := (nI_tn q1.1).symm
  have hx6 : xx.toInt.toNat < 6 := by omega
  have hP := hq a xx.toInt.toNat (by omega) q2
  have K3' := K3 a b
  have K4' := K4 a b
  unfold okW at K3' K4'
  clear K1 K2 K3 K4 hq
  generalize xx.toInt.toNat = x at *
  rw [ex]
  obtain ⟨p0, p2, p3, p4, pb, p5, p6, _⟩ := hP
  have hrw : rwB (qq x) md ≤ 80 := by
    unfold rwB
    split <;> omega
  have e0 : rr < 0 ↔ rr.toInt < 0 := by rw [ltI, c0]
  have e1 : rr < nI (rwB (qq x) md) ↔ rr.toInt < rwB (qq x) md := by rw [ltI, nI_toInt (by omega)]
  refine S78_5 hκ hx6 pb.1 pb.2.1 p0 p2 (fun y => K3' (decide_eq_false ?_)) (fun y1 y2 hm => ?_) (fun y1 y2 hm => ?_)
  · have y' : rr < 0 ∨ (¬ rr < 0 ∧ ¬ rr < nI (rwB (qq x) md)) := y
    rw [e0, e1] at y'
    omega
  · have y2' : rr < nI (rwB (qq x) md) := y2
    rw [e0] at y1
    rw [e1] at y2'
    have K := K4' (decide_eq_true (by omega))
    subst hm
    have hpos : 0 < (qq x).2.1 := by
      have : rwB (qq x) true = (qq x).2.1 := rfl
      omega
    refine f61 (c := cyW (qq x) true) (R := nI (rwB (qq x) true)) hκ (pl_of hx6) (bl_b hx6) (pl_ar (pl_of hx6) 3 (by omega)) hs d4 (fun j hj => (p6 hpos j hj).1) d6 ⟨_, _, _, rfl, ?_⟩
    exact w_weak (lle_u (lle_u (lle_u (lle_u (lle_u lle_n))))) (S78_72 hκ K)
  · have y2' : rr < nI (rwB (qq x) md) := y2
    rw [e0] at y1
    rw [e1] at y2'
    have K := K4' (decide_eq_true (by omega))
    have hm' : md = false := by
      cases md
      · rfl
      · exact absurd rfl hm
    subst hm'
    refine f61 (c := cyW (qq x) false) (R := nI (rwB (qq x) false)) hκ (pl_of hx6) (bl_b hx6) (pl_ar (pl_of hx6) 2 (by omega)) hs d4 (fun j hj => (p5 j hj).1) d6 ⟨_, _, _, rfl, ?_⟩
    exact w_weak (lle_u (lle_u (lle_u (lle_u (lle_u lle_n))))) (S78_97 hκ K)
theorem F150 (hκ : Rd κ) (hg : GOk g) (hI : MI g mp cf tu tr r M) (hmi : cf = true → miss g = false) (hq : cf = true → ∀ x, x < gN g → (s1 g).2.2.2.1 x = false → PN M ((s1 g).1 x) ((s1 g).2.2.1 x) (LtO mp ((s1 g).2.2.2.2 x)) (19 + 18 * x) (qq x)) (K0 : ¬ askC cf (okX g xx) true (okW (qq xx.toInt.toNat) md rr) = 0 → ∀ M', (∀ x j, x < 134 → M' x j = M x j) → M' 134 0 = nI (askC cf (okX g xx) true (okW (qq xx.toInt.toNat) md rr)) → MI g mp cf tu tr r M' → Q (.inl (some (.long 0)), M', κ)) (K1 : cf = true → okX g xx = true → okW (qq xx.toInt.toNat) md rr = true → ∀ M', (∀ x j, x < 134 → M' x j = M x j) → M' 134 0 = nI 0 → MI g mp cf tu tr r M' → Q (.inl (some (.long (bnS g (qq xx.toInt.toNat) xx.toInt.toNat md rr))), M', κ)) : RT 150 (0, entL 150 [.ref 134, .int xx, .int rr, .int (bI md)], [], M, κ) Q := by
  have h6 := hg.1
  have eo : outR xx 0 5 = true ↔ ¬ (0 ≤ xx.toInt ∧ xx.toInt ≤ 5) := by
    have e : inR 0 xx 5 = true ↔ 0 ≤ xx.toInt ∧ xx.toInt ≤ 5 := inR_iff
    rw [outR_inR]
    cases q : inR 0 xx 5 with
    | false => rw [q] at e; exact ⟨fun _ z => Bool.noConfusion (e.mpr z), fun _ => rfl⟩
    | true => rw [q] at e; exact ⟨fun z => (by cases z), fun z => absurd (e.mp rfl) z⟩
  have ecl : xx.toNatClampNeg = xx.toInt.toNat := rfl
  have hrow : cf = true → okX g xx = true → (if (outR xx 0 5) = true then 0 else (if md = true then (M 163 xx.toNatClampNeg) else (M 161 xx.toNatClampNeg))) = nI (rwB (qq xx.toInt.toNat) md) ∧ rwB (qq xx.toInt.toNat) md ≤ 80 := fun hcf hox => by
    obtain ⟨q1, q2⟩ := okX_iff.mp hox
    have hno : ¬ outR xx 0 5 = true := fun z => (eo.mp z) (by omega)
    obtain ⟨w1, w2, w3, w4, w5⟩ := (hI.2.2.2.2 hcf).2.2 xx.toInt.toNat (by omega) q2
    obtain ⟨p0, p2, p3, p4, pb, p5, p6, _⟩ := hq hcf xx.toInt.toNat (by omega) q2
    rw [if_neg hno, ecl]
    unfold rwB
    cases md with
    | true => exact ⟨w4.trans p2, pb.2.1⟩
    | false => exact ⟨w2.trans p0, pb.1⟩
  have hr : Run 147 (0, entL 147 [.ref 134, .int xx, .int 1, .int (bI (if (outR rr 0 ((if (outR xx 0 5) = true then 0 else (if md = true then (M 163 xx.toNatClampNeg) else (M 161 xx.toNatClampNeg))) - 1)) = true then false else true))], [], M, κ) (.inl (some (.int (nI (askC cf (okX g xx) true (okW (qq xx.toInt.toNat) md rr))))), M, κ) := by
    have hr1 := c147 (kk := xx) (th := true) (kw := (if (outR rr 0 ((if (outR xx 0 5) = true then 0 else (if md = true then (M 163 xx.toNatClampNeg) else (M 161 xx.toNatClampNeg))) - 1)) = true then false else true)) hκ hg hI
    have e : askC cf (okX g xx) true (if (outR rr 0 ((if (outR xx 0 5) = true then 0 else (if md = true then (M 163 xx.toNatClampNeg) else (M 161 xx.toNatClampNeg))) - 1)) = true then false else true) = askC cf (okX g xx) true (okW (qq xx.toInt.toNat) md rr) := by
      cases hcf : cf with
      | false => rfl
      | true =>
        cases hox : okX g xx with
        | false => rfl
        | true =>
          obtain ⟨hr1, hr2⟩ := hrow hcf hox
          rw [hr1, outR_inR]
          have e3 : inR 0 rr (nI (rwB (qq xx.toInt.toNat) md) - 1) = true ↔ 0 ≤ rr.toInt ∧ rr.toInt < rwB (qq xx.toInt.toNat) md := by
            rw [inR_iff, c0, l_sub (by rw [nI_toInt (by omega)]; omega) (by decide), nI_toInt (by omega), t1]
            omega
          unfold okW
          cases q : inR 0 rr (nI (rwB (qq xx.toInt.toNat) md) - 1) with
          | false =>
            rw [q] at e3
            rw [decide_eq_false (fun z => Bool.noConfusion (e3.mpr z))]
            rfl
          | true =>
            rw [q] at e3
            rw [decide_eq_true (e3.mp rfl)]
            rfl
    rw [e] at hr1
    exact hr1
  have hle : askC cf (okX g xx) true (okW (qq xx.toInt.toNat) md rr) ≤ 3 := by
    unfold askC
    repeat' split
    all_goals omega
  have hpos : 0 < nI (askC cf (okX g xx) true (okW (qq xx.toInt.toNat) md rr)) ↔ ¬ askC cf (okX g xx) true (okW (qq xx.toInt.toNat) md rr) = 0 := by
    rw [ltI, c0, nI_toInt (by omega)]
    omega
  have hv : ¬ outR xx 0 5 = true → vp_in xx 6 := fun a => vp6 (by
    have : 0 ≤ xx.toInt ∧ xx.toInt ≤ 5 := Classical.byContradiction fun z => a (eo.mpr z)
    omega)
  refine S150_0 hκ hr (fun a _ => hv a) (fun a _ => hv a) (fun a => K0 (hpos.mp a) _ (fun x j hx => stM_o (by omega)) stM_s (MI_th h6 hI)) (fun a => ?_)
  have a0 : askC cf (okX g xx) true (okW (qq xx.toInt.toNat) md rr) = 0 := Classical.byContradiction fun z => a (hpos.mpr z)
  have a1 : cf = true ∧ okX g xx = true ∧ okW (qq xx.toInt.toNat) md rr = true := by
    revert a0
    unfold askC
    cases cf <;> cases okX g xx <;> cases okW (qq xx.toInt.toNat) md rr <;> decide
  have hI' := MI_th (w := nI (askC cf (okX g xx) true (okW (qq xx.toInt.toNat) md rr))) h6 hI
  have K1' := K1 a1.1 a1.2.1 a1.2.2 _ (fun x j hx => stM_o (by omega)) (stM_s.trans (congrArg nI a0)) hI'
  have hl : ∀ x j, x < 134 → stM M 134 0 (nI (askC cf (okX g xx) true (okW (qq xx.toInt.toNat) md rr))) x j = M x j := fun x j hx => stM_o (by omega)
  rw [(hrow a1.1 a1.2.1).1]
  generalize stM M 134 0 (nI (askC cf (okX g xx) true (okW (qq xx.toInt.toNat) md rr))) = M1 at hI' K1' hl
  obtain ⟨q1, q2⟩ := okX_iff.mp a1.2.1
  have q3 : 0 ≤ rr.toInt ∧ rr.toInt < rwB (qq xx.toInt.toNat) md := of_decide_eq_true a1.2.2
  obtain ⟨m1, m2, m3⟩ := hI'.2.2.2.2 a1.1
  obtain ⟨d0, d1, d2, d3, d4, d5, d6⟩ := m2 xx.toInt.toNat (by omega)
  obtain ⟨w1, w2, w3, w4, w5⟩ := m3 xx.toInt.toNat (by omega) q2
  have hs := ((SIv1 hg (hmi a1.1)).1 xx.toInt.toNat (by omega)).2.2.2.2.1
  obtain ⟨p0, p2, p3, p4, pb, p5, p6, _⟩ := hq a1.1 xx.toInt.toNat (by omega) q2
  have ex : xx = nI xx.toInt.toNat := (nI_tn q1.1).symm
  have hx6 : xx.toInt.toNat < 6 := by omega
  clear K0 K1 hr hle hpos a a0 hI a1 eo hrow hv hq ecl
  generalize xx.toInt.toNat = x at *
  rw [ex]
  have hrw : rwB (qq x) md ≤ 80 := by
    unfold rwB
    split <;> omega
  refine S150_71 hκ hx6 ?_
  unfold bnS at K1'
  have hcl : ∀ j, j < (s1 g).2.2.1 x → M1 159 (10 * x + j) = cyW (qq x) false j := fun j hj => ((w1 j hj).2.1.trans (hl _ _ (by omega))).trans (p5 j hj).1
  have hcm : ∀ j, j < (s1 g).2.2.1 x → M1 160 (10 * x + j) = M1 (19 + 18 * x + 3) j := fun j hj => (w1 j hj).2.2
  have hle : ∀ k, (pkS ((s1 g).2.2.2.2 x) (cyW (qq x) md) (nI (rwB (qq x) md)) rr k).2.1 ≤ k ∧ (pkS ((s1 g).2.2.2.2 x) (cyW (qq x) md) (nI (rwB (qq x) md)) rr k).2.2 ≤ k + 4 := pkS_le
  have key : ∀ d k, k + d = (s1 g).2.2.1 x → RT 150 (82, [.ref 134, .int (nI x), .int rr, .int (bI md), .int (nI (rwB (qq x) md)), .long (pkS ((s1 g).2.2.2.2 x) (cyW (qq x) md) (nI (rwB (qq x) md)) rr k).1, UU, .int (nI (pkS ((s1 g).2.2.2.2 x) (cyW (qq x) md) (nI (rwB (qq x) md)) rr k).2.1), .int (nI (pkS ((s1 g).2.2.2.2 x) (cyW (qq x) md) (nI (rwB (qq x) md)) rr k).2.2), .int (nI k), UU, UU, UU, UU], [], M1, κ) Q := fun d => by
    induction d with
    | zero =>
      intro k hk
      have e : k = (s1 g).2.2.1 x := hk
      have h := hle k
      cases md with
      | true =>
        refine S150_82 hκ hx6 (by omega) hs d4 hcl hcm d6 (by omega) (by omega) (by omega) (fun z => absurd z (by omega)) (fun z => absurd z (by omega)) (fun z => absurd z (by omega)) (fun _ => ?_)
        rw [e]
        exact K1'
      | false =>
        refine L150_82 hκ hx6 (by omega) hs d4 hcl hcm d6 (by omega) (by omega) (by omega) (fun z => absurd z (by omega)) (fun _ => ?_)
        rw [e]
        exact K1'
    | succ d ih =>
      intro k hk
      have h := hle k
      have hI := ih (k + 1) (by omega)
      rw [pkS_suc] at hI
      have hkn : k < (s1 g).2.2.1 x := by omega
      cases md with
      | true =>
        have e2 : rwB (qq x) true = (qq x).2.1 := rfl
        have hp0 : 0 < (qq x).2.1 := by omega
        have hne : ¬ nI (rwB (qq x) true) = 0 := fun z => by
          have := congrArg Int32.toInt z
          rw [nI_toInt (by omega), c0] at this
          omega
        have hpI : 0 < nI (rwB (qq x) true) := by
          rw [ltI, c0, nI_toInt (by omega)]
          omega
        have ecm : M1 (19 + 18 * x + 3) k = cyW (qq x) true k := (hl _ _ (by omega)).trans (p6 hp0 k hkn).1
        refine S150_82 hκ hx6 (by omega) hs d4 hcl hcm d6 (by omega) (by omega) (by omega) (fun _ _ => hne) (fun _ => hne) (fun _ => ?_) (fun z => absurd hkn z)
        rw [ecm]
        have er : rmF (cyW (qq x) true k) (nI (rwB (qq x) true)) = rm (cyW (qq x) true k) (nI (rwB (qq x) true)) := if_pos hpI
        have ed : dvF (cyW (qq x) true k) (nI (rwB (qq x) true)) = cyW (qq x) true k / nI (rwB (qq x) true) := if_pos hpI
        rw [er, ed] at hI
        by_cases q : rm (cyW (qq x) true k) (nI (rwB (qq x) true)) = rr
        · simp only [if_pos q] at hI ⊢
          exact hI
        · simp only [if_neg q] at hI ⊢
          exact hI
      | false =>
        have e2 : rwB (qq x) false = (qq x).1 := rfl
        have hlt := rmF_lt (a := (qq x).2.2.2.2.1 k) (b := (qq x).1) (p5 k hkn).2 (by omega)
        refine L150_82 hκ hx6 (by omega) hs d4 hcl hcm d6 (by omega) (by omega) (by omega) (fun _ => ?_) (fun z => absurd hkn z)
        have er : rmF (cyW (qq x) false k) (nI (rwB (qq x) false)) = cyW (qq x) false k := hlt.1
        have ed : dvF (cyW (qq x) false k) (nI (rwB (qq x) false)) = 0 := hlt.2
        have ev : nI (k + 1) + 16 * (0 : Int32) = nI (k + 1 + 0) := by rw [Int32.mul_zero, Int32.add_zero]
        rw [er, ed, ev] at hI
        by_cases q : cyW (qq x) false k = rr
        · simp only [if_pos q] at hI ⊢
          exact hI
        · simp only [if_neg q] at hI ⊢
          exact hI
  exact key ((s1 g).2.2.1 x) 0 (Nat.zero_add _)
end BN
end P_57_pack
