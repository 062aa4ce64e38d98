/-! GUARDS FOR BRANCHES: the model -/
section P_44_guard2
theorem i_112_0 : ins 112 0 = some (.aload_n 0, 1, 0, 0, 0, 0) := rfl
theorem i_112_1 : ins 112 1 = some (.getfield 62, 4, 7, 21, 0, 0) := rfl
theorem i_112_4 : ins 112 4 = some (.iload_n 1, 5, 1, 0, 0, 0) := rfl
theorem i_112_5 : ins 112 5 = some (.baload, 6, 0, 0, 0, 0) := rfl
theorem i_112_6 : ins 112 6 = some (.ifCond .ne 28, 9, 34, 0, 0, 0) := rfl
theorem i_112_9 : ins 112 9 = some (.aload_n 0, 10, 0, 0, 0, 0) := rfl
theorem i_112_10 : ins 112 10 = some (.getfield 66, 13, 7, 22, 0, 0) := rfl
theorem i_112_13 : ins 112 13 = some (.iload_n 1, 14, 1, 0, 0, 0) := rfl
theorem i_112_14 : ins 112 14 = some (.iaload, 15, 0, 0, 0, 0) := rfl
theorem i_112_15 : ins 112 15 = some (.iconst 2, 16, 0, 0, 0, 2) := rfl
theorem i_112_16 : ins 112 16 = some (.if_icmp .ne 18, 19, 34, 0, 0, 0) := rfl
theorem i_112_19 : ins 112 19 = some (.aload_n 0, 20, 0, 0, 0, 0) := rfl
theorem i_112_20 : ins 112 20 = some (.getfield 72, 23, 7, 24, 0, 0) := rfl
theorem i_112_23 : ins 112 23 = some (.iload_n 1, 24, 1, 0, 0, 0) := rfl
theorem i_112_24 : ins 112 24 = some (.iaload, 25, 0, 0, 0, 0) := rfl
theorem i_112_25 : ins 112 25 = some (.aload_n 0, 26, 0, 0, 0, 0) := rfl
theorem i_112_26 : ins 112 26 = some (.getfield 75, 29, 7, 25, 0, 0) := rfl
theorem i_112_29 : ins 112 29 = some (.iload_n 1, 30, 1, 0, 0, 0) := rfl
theorem i_112_30 : ins 112 30 = some (.iaload, 31, 0, 0, 0, 0) := rfl
theorem i_112_31 : ins 112 31 = some (.if_icmp .ne 4, 34, 35, 0, 0, 0) := rfl
theorem i_112_34 : ins 112 34 = some (.return_, 35, 0, 0, 0, 0) := rfl
theorem i_112_35 : ins 112 35 = some (.aload_n 0, 36, 0, 0, 0, 0) := rfl
theorem i_112_36 : ins 112 36 = some (.getfield 72, 39, 7, 24, 0, 0) := rfl
theorem i_112_39 : ins 112 39 = some (.iload_n 1, 40, 1, 0, 0, 0) := rfl
theorem i_112_40 : ins 112 40 = some (.iaload, 41, 0, 0, 0, 0) := rfl
theorem i_112_41 : ins 112 41 = some (.istore_n 2, 42, 2, 0, 0, 0) := rfl
theorem i_112_42 : ins 112 42 = some (.aload_n 0, 43, 0, 0, 0, 0) := rfl
theorem i_112_43 : ins 112 43 = some (.getfield 75, 46, 7, 25, 0, 0) := rfl
theorem i_112_46 : ins 112 46 = some (.iload_n 1, 47, 1, 0, 0, 0) := rfl
theorem i_112_47 : ins 112 47 = some (.iaload, 48, 0, 0, 0, 0) := rfl
theorem i_112_48 : ins 112 48 = some (.istore_n 3, 49, 3, 0, 0, 0) := rfl
theorem S112_0 {Q : Ou → Prop} {M : Mem} {κ : Kp} (hκ : Rd κ) {x t u : Nat} (hx : x < 6) (ht : t < 6) (hu : u < 6) {gx : Bool} {ex : Int32} (h5x : M 146 x = bI gx) (h0x : M 147 x = ex) (h2x : M 149 x = nI t) (h3x : M 150 x = nI u) 
    (k1 : ((gx = true) ∨ ((¬ (gx = true)) ∧ (ex = 2) ∧ (t = u)) ∨ ((¬ (gx = true)) ∧ (¬ (ex = 2)))) → Q (.inl none, M, κ))
    (k2 : ¬ (gx = true) → ex = 2 → ¬ (t = u) → RT 112 (49, [.ref 134, .int (nI x), .int (nI t), .int (nI u), UU, UU, UU, UU], [], M, κ) Q)
    : RT 112 (0, [.ref 134, .int (nI x), UU, UU, UU, UU, UU, UU], [], M, κ) Q := by
  refine w_load i_112_0 rfl rfl ?_
  refine w_getR 146 i_112_1 hκ (⟨rfl, by decide⟩ : isOb 134 7) rfl rfl ?_
  refine w_load i_112_4 rfl rfl ?_
  refine w_zaldN (e := x) (v := (bI gx)) i_112_5 hκ (⟨rfl, rfl, by decide⟩ : isZr 146 6) (by omega) (by decide) (h5x) ?_
  have K1 : ((gx = true) ∨ ((¬ (gx = true)) ∧ (ex = 2) ∧ (t = u)) ∨ ((¬ (gx = true)) ∧ (¬ (ex = 2)))) → RT 112 (34, [.ref 134, .int (nI x), UU, UU, UU, UU, UU, UU], [], M, κ) Q := by
    intro h2
    exact w_vret i_112_34 rfl (k1 h2)
  refine w_if0 (gx = true) i_112_6 cB_ne ?_ ?_
  · intro h3
    exact (by first | exact (K1 (.inl h3)) | (have K9 := K1 (.inl h3); simp only [↓if_pos h3] at K9 ⊢; exact (K9)))
  · intro h4
    refine w_load i_112_9 rfl rfl ?_
    refine w_getR 147 i_112_10 hκ (⟨rfl, by decide⟩ : isOb 134 7) rfl rfl ?_
    refine w_load i_112_13 rfl rfl ?_
    refine w_ialdN (e := x) (v := ex) i_112_14 hκ (⟨rfl, rfl, by decide⟩ : isAr 147 6) (by omega) (by decide) (h0x) ?_
    refine w_push i_112_15 rfl ?_
    refine w_if2n (ex = 2) i_112_16 cI_ne ?_ ?_
    · intro h5
      refine w_load i_112_19 rfl rfl ?_
      refine w_getR 149 i_112_20 hκ (⟨rfl, by decide⟩ : isOb 134 7) rfl rfl ?_
      refine w_load i_112_23 rfl rfl ?_
      refine w_ialdN (e := x) (v := (nI t)) i_112_24 hκ (⟨rfl, rfl, by decide⟩ : isAr 149 6) (by omega) (by decide) (h2x) ?_
      refine w_load i_112_25 rfl rfl ?_
      refine w_getR 150 i_112_26 hκ (⟨rfl, by decide⟩ : isOb 134 7) rfl rfl ?_
      refine w_load i_112_29 rfl rfl ?_
      refine w_ialdN (e := x) (v := (nI u)) i_112_30 hκ (⟨rfl, rfl, by decide⟩ : isAr 150 6) (by omega) (by decide) (h3x) ?_
      refine w_if2n (t = u) i_112_31 (cN_ne (a := t) (b := u) (by omega) (by omega)) ?_ ?_
      · intro h6
        exact (by first | exact (K1 (.inr (.inl ⟨h4, h5, h6⟩))) | (have K9 := K1 (.inr (.inl ⟨h4, h5, h6⟩)); simp only [↓if_neg h4, ↓if_pos h5, ↓if_pos h6] at K9 ⊢; exact (K9)))
      · intro h7
        refine w_load i_112_35 rfl rfl ?_
        refine w_getR 149 i_112_36 hκ (⟨rfl, by decide⟩ : isOb 134 7) rfl rfl ?_
        refine w_load i_112_39 rfl rfl ?_
        refine w_ialdN (e := x) (v := (nI t)) i_112_40 hκ (⟨rfl, rfl, by decide⟩ : isAr 149 6) (by omega) (by decide) (h2x) ?_
        refine w_store (l1 := [.ref 134, .int (nI x), .int (nI t), UU, UU, UU, UU, UU]) i_112_41 rfl (Nat.le_of_ble_eq_true rfl) rfl ?_
        refine w_load i_112_42 rfl rfl ?_
        refine w_getR 150 i_112_43 hκ (⟨rfl, by decide⟩ : isOb 134 7) rfl rfl ?_
        refine w_load i_112_46 rfl rfl ?_
        refine w_ialdN (e := x) (v := (nI u)) i_112_47 hκ (⟨rfl, rfl, by decide⟩ : isAr 150 6) (by omega) (by decide) (h3x) ?_
        refine w_store (l1 := [.ref 134, .int (nI x), .int (nI t), .int (nI u), UU, UU, UU, UU]) i_112_48 rfl (Nat.le_of_ble_eq_true rfl) rfl ?_
        exact (k2 h4 h5 h7)
    · intro h8
      exact (by first | exact (K1 (.inr (.inr ⟨h4, h8⟩))) | (have K9 := K1 (.inr (.inr ⟨h4, h8⟩)); simp only [↓if_neg h4, ↓if_neg h8] at K9 ⊢; exact (K9)))
theorem i_112_49 : ins 112 49 = some (.aload_n 0, 50, 0, 0, 0, 0) := rfl
theorem i_112_50 : ins 112 50 = some (.iload_n 2, 51, 2, 0, 0, 0) := rfl
theorem i_112_51 : ins 112 51 = some (.iload_n 1, 52, 1, 0, 0, 0) := rfl
theorem i_112_52 : ins 112 52 = some (.invokevirtual 210, 55, 111, 0, 3, 0) := rfl
theorem i_112_55 : ins 112 55 = some (.istore 4, 57, 4, 0, 0, 0) := rfl
theorem i_112_57 : ins 112 57 = some (.aload_n 0, 58, 0, 0, 0, 0) := rfl
theorem i_112_58 : ins 112 58 = some (.iload_n 3, 59, 3, 0, 0, 0) := rfl
theorem i_112_59 : ins 112 59 = some (.iload_n 1, 60, 1, 0, 0, 0) := rfl
theorem i_112_60 : ins 112 60 = some (.invokevirtual 210, 63, 111, 0, 3, 0) := rfl
theorem i_112_63 : ins 112 63 = some (.istore 5, 65, 5, 0, 0, 0) := rfl
theorem i_112_65 : ins 112 65 = some (.aload_n 0, 66, 0, 0, 0, 0) := rfl
theorem i_112_66 : ins 112 66 = some (.getfield 66, 69, 7, 22, 0, 0) := rfl
theorem i_112_69 : ins 112 69 = some (.iload_n 2, 70, 2, 0, 0, 0) := rfl
theorem i_112_70 : ins 112 70 = some (.iaload, 71, 0, 0, 0, 0) := rfl
theorem i_112_71 : ins 112 71 = some (.iconst 1, 72, 0, 0, 0, 1) := rfl
theorem i_112_72 : ins 112 72 = some (.if_icmp .ne 7, 75, 79, 0, 0, 0) := rfl
theorem i_112_75 : ins 112 75 = some (.iconst 1, 76, 0, 0, 0, 1) := rfl
theorem i_112_76 : ins 112 76 = some (.goto 4, 79, 80, 0, 0, 0) := rfl
theorem i_112_79 : ins 112 79 = some (.iconst 0, 80, 0, 0, 0, 0) := rfl
theorem i_112_80 : ins 112 80 = some (.istore 6, 82, 6, 0, 0, 0) := rfl
theorem i_112_82 : ins 112 82 = some (.aload_n 0, 83, 0, 0, 0, 0) := rfl
theorem i_112_83 : ins 112 83 = some (.getfield 66, 86, 7, 22, 0, 0) := rfl
theorem i_112_86 : ins 112 86 = some (.iload_n 3, 87, 3, 0, 0, 0) := rfl
theorem i_112_87 : ins 112 87 = some (.iaload, 88, 0, 0, 0, 0) := rfl
theorem i_112_88 : ins 112 88 = some (.iconst 1, 89, 0, 0, 0, 1) := rfl
theorem i_112_89 : ins 112 89 = some (.if_icmp .ne 7, 92, 96, 0, 0, 0) := rfl
theorem i_112_92 : ins 112 92 = some (.iconst 1, 93, 0, 0, 0, 1) := rfl
theorem i_112_93 : ins 112 93 = some (.goto 4, 96, 97, 0, 0, 0) := rfl
theorem i_112_96 : ins 112 96 = some (.iconst 0, 97, 0, 0, 0, 0) := rfl
theorem i_112_97 : ins 112 97 = some (.istore 7, 99, 7, 0, 0, 0) := rfl
theorem S112_49 {Q : Ou → Prop} {M : Mem} {κ : Kp} (hκ : Rd κ) {x t u : Nat} (hx : x < 6) (ht : t < 6) (hu : u < 6) {et eu : Int32} (h0t : M 147 t = et) (h0u : M 147 u = eu)  {r_52 : Bool} {r_60 : Bool}
    (o1 : Run 111 (0, entL 111 [.ref 134, .int (nI t), .int (nI x)], [], M, κ) (.inl (some (.int (bI r_52))), M, κ))
    (o2 : Run 111 (0, entL 111 [.ref 134, .int (nI u), .int (nI x)], [], M, κ) (.inl (some (.int (bI r_60))), M, κ))
    (k1 : RT 112 (99, [.ref 134, .int (nI x), .int (nI t), .int (nI u), .int (bI r_52), .int (bI r_60), .int (bI (if et = 1 then true else false)), .int (bI (if eu = 1 then true else false))], [], M, κ) Q)
    : RT 112 (49, [.ref 134, .int (nI x), .int (nI t), .int (nI u), UU, UU, UU, UU], [], M, κ) Q := by
  refine w_load i_112_49 rfl rfl ?_
  refine w_load i_112_50 rfl rfl ?_
  refine w_load i_112_51 rfl rfl ?_
  refine w_callV (i := _) i_112_52 ⟨by decide, by decide, by decide, rfl⟩ hκ (⟨rfl, by decide⟩ : isOb 134 7) (av := [.int (nI t), .int (nI x)]) (rest := []) rfl rfl (Nat.le_of_ble_eq_true rfl) (v := some (.int (bI r_52))) (o1) ?_
  refine w_store (l1 := [.ref 134, .int (nI x), .int (nI t), .int (nI u), .int (bI r_52), UU, UU, UU]) i_112_55 rfl (Nat.le_of_ble_eq_true rfl) rfl ?_
  refine w_load i_112_57 rfl rfl ?_
  refine w_load i_112_58 rfl rfl ?_
  refine w_load i_112_59 rfl rfl ?_
  refine w_callV (i := _) i_112_60 ⟨by decide, by decide, by decide, rfl⟩ hκ (⟨rfl, by decide⟩ : isOb 134 7) (av := [.int (nI u), .int (nI x)]) (rest := []) rfl rfl (Nat.le_of_ble_eq_true rfl) (v := some (.int (bI r_60))) (o2) ?_
  refine w_store (l1 := [.ref 134, .int (nI x), .int (nI t), .int (nI u), .int (bI r_52), .int (bI r_60), UU, UU]) i_112_63 rfl (Nat.le_of_ble_eq_true rfl) rfl ?_
  refine w_load i_112_65 rfl rfl ?_
  refine w_getR 147 i_112_66 hκ (⟨rfl, by decide⟩ : isOb 134 7) rfl rfl ?_
  refine w_load i_112_69 rfl rfl ?_
  refine w_ialdN (e := t) (v := et) i_112_70 hκ (⟨rfl, rfl, by decide⟩ : isAr 147 6) (by omega) (by decide) (h0t) ?_
  refine w_push i_112_71 rfl ?_
  have K1 : RT 112 (80, [.ref 134, .int (nI x), .int (nI t), .int (nI u), .int (bI r_52), .int (bI r_60), UU, UU], [.int (bI (if et = 1 then true else false))], M, κ) Q := by
    refine w_store (l1 := [.ref 134, .int (nI x), .int (nI t), .int (nI u), .int (bI r_52), .int (bI r_60), .int (bI (if et = 1 then true else false)), UU]) i_112_80 rfl (Nat.le_of_ble_eq_true rfl) rfl ?_
    refine w_load i_112_82 rfl rfl ?_
    refine w_getR 147 i_112_83 hκ (⟨rfl, by decide⟩ : isOb 134 7) rfl rfl ?_
    refine w_load i_112_86 rfl rfl ?_
    refine w_ialdN (e := u) (v := eu) i_112_87 hκ (⟨rfl, rfl, by decide⟩ : isAr 147 6) (by omega) (by decide) (h0u) ?_
    refine w_push i_112_88 rfl ?_
    have K2 : RT 112 (97, [.ref 134, .int (nI x), .int (nI t), .int (nI u), .int (bI r_52), .int (bI r_60), .int (bI (if et = 1 then true else false)), UU], [.int (bI (if eu = 1 then true else false))], M, κ) Q := by
      refine w_store (l1 := [.ref 134, .int (nI x), .int (nI t), .int (nI u), .int (bI r_52), .int (bI r_60), .int (bI (if et = 1 then true else false)), .int (bI (if eu = 1 then true else false))]) i_112_97 rfl (Nat.le_of_ble_eq_true rfl) rfl ?_
      exact (k1)
    refine w_if2n (eu = 1) i_112_89 cI_ne ?_ ?_
    · intro h3
      refine w_push i_112_92 rfl ?_
      refine w_goto i_112_93 ?_
      exact (by first | exact (K2) | (have K9 := K2; simp only [↓if_pos h3] at K9 ⊢; exact (K9)))
    · intro h4
      refine w_push i_112_96 rfl ?_
      exact (by first | exact (K2) | (have K9 := K2; simp only [↓if_neg h4] at K9 ⊢; exact (K9)))
  refine w_if2n (et = 1) i_112_72 cI_ne ?_ ?_
  · intro h5
    refine w_push i_112_75 rfl ?_
    refine w_goto i_112_76 ?_
    exact (by first | exact (K1) | (have K9 := K1; simp only [↓if_pos h5] at K9 ⊢; exact (K9)))
  · intro h6
    refine w_push i_112_79 rfl ?_
    exact (by first | exact (K1) | (have K9 := K1; simp only [↓if_neg h6] at K9 ⊢; exact (K9)))
theorem i_112_99 : ins 112 99 = some (.iload 6, 101, 6, 0, 0, 0) := rfl
theorem i_112_101 : ins 112 101 = some (.ifCond .eq 100, 104, 201, 0, 0, 0) := rfl
theorem i_112_104 : ins 112 104 = some (.iload 7, 106, 7, 0, 0, 0) := rfl
theorem i_112_106 : ins 112 106 = some (.ifCond .eq 95, 109, 201, 0, 0, 0) := rfl
theorem i_112_109 : ins 112 109 = some (.aload_n 0, 110, 0, 0, 0, 0) := rfl
theorem i_112_110 : ins 112 110 = some (.getfield 72, 113, 7, 24, 0, 0) := rfl
theorem i_112_113 : ins 112 113 = some (.iload_n 2, 114, 2, 0, 0, 0) := rfl
theorem i_112_114 : ins 112 114 = some (.iaload, 115, 0, 0, 0, 0) := rfl
theorem i_112_115 : ins 112 115 = some (.aload_n 0, 116, 0, 0, 0, 0) := rfl
theorem i_112_116 : ins 112 116 = some (.getfield 72, 119, 7, 24, 0, 0) := rfl
theorem i_112_119 : ins 112 119 = some (.iload_n 3, 120, 3, 0, 0, 0) := rfl
theorem i_112_120 : ins 112 120 = some (.iaload, 121, 0, 0, 0, 0) := rfl
theorem i_112_121 : ins 112 121 = some (.if_icmp .ne 80, 124, 201, 0, 0, 0) := rfl
theorem i_112_124 : ins 112 124 = some (.iload 4, 126, 4, 0, 0, 0) := rfl
theorem i_112_126 : ins 112 126 = some (.ifCond .eq 75, 129, 201, 0, 0, 0) := rfl
theorem i_112_129 : ins 112 129 = some (.iload 5, 131, 5, 0, 0, 0) := rfl
theorem i_112_131 : ins 112 131 = some (.ifCond .eq 70, 134, 201, 0, 0, 0) := rfl
theorem i_112_134 : ins 112 134 = some (.aload_n 0, 135, 0, 0, 0, 0) := rfl
theorem i_112_135 : ins 112 135 = some (.getfield 78, 138, 7, 26, 0, 0) := rfl
theorem i_112_138 : ins 112 138 = some (.iload_n 1, 139, 1, 0, 0, 0) := rfl
theorem i_112_139 : ins 112 139 = some (.iaload, 140, 0, 0, 0, 0) := rfl
theorem i_112_140 : ins 112 140 = some (.aload_n 0, 141, 0, 0, 0, 0) := rfl
theorem i_112_141 : ins 112 141 = some (.getfield 78, 144, 7, 26, 0, 0) := rfl
theorem i_112_144 : ins 112 144 = some (.iload_n 2, 145, 2, 0, 0, 0) := rfl
theorem i_112_145 : ins 112 145 = some (.iaload, 146, 0, 0, 0, 0) := rfl
theorem i_112_146 : ins 112 146 = some (.iadd, 147, 0, 0, 0, 0) := rfl
theorem i_112_147 : ins 112 147 = some (.aload_n 0, 148, 0, 0, 0, 0) := rfl
theorem i_112_148 : ins 112 148 = some (.getfield 78, 151, 7, 26, 0, 0) := rfl
theorem i_112_151 : ins 112 151 = some (.iload_n 3, 152, 3, 0, 0, 0) := rfl
theorem i_112_152 : ins 112 152 = some (.iaload, 153, 0, 0, 0, 0) := rfl
theorem i_112_153 : ins 112 153 = some (.iadd, 154, 0, 0, 0, 0) := rfl
theorem i_112_154 : ins 112 154 = some (.bipush 10, 156, 0, 0, 0, 10) := rfl
theorem i_112_156 : ins 112 156 = some (.if_icmp .gt 45, 159, 201, 0, 0, 0) := rfl
theorem i_112_159 : ins 112 159 = some (.aload_n 0, 160, 0, 0, 0, 0) := rfl
theorem i_112_160 : ins 112 160 = some (.iload_n 1, 161, 1, 0, 0, 0) := rfl
theorem i_112_161 : ins 112 161 = some (.iload_n 2, 162, 2, 0, 0, 0) := rfl
theorem i_112_162 : ins 112 162 = some (.iconst 1, 163, 0, 0, 0, 1) := rfl
theorem i_112_163 : ins 112 163 = some (.aload_n 0, 164, 0, 0, 0, 0) := rfl
theorem i_112_164 : ins 112 164 = some (.getfield 69, 167, 7, 23, 0, 0) := rfl
theorem i_112_167 : ins 112 167 = some (.iload_n 1, 168, 1, 0, 0, 0) := rfl
theorem i_112_168 : ins 112 168 = some (.iaload, 169, 0, 0, 0, 0) := rfl
theorem i_112_169 : ins 112 169 = some (.iadd, 170, 0, 0, 0, 0) := rfl
theorem i_112_170 : ins 112 170 = some (.invokevirtual 214, 173, 113, 0, 4, 0) := rfl
theorem i_112_201 : ins 112 201 = some (.iload 6, 203, 6, 0, 0, 0) := rfl
theorem i_112_203 : ins 112 203 = some (.ifCond .eq 59, 206, 262, 0, 0, 0) := rfl
theorem i_112_206 : ins 112 206 = some (.aload_n 0, 207, 0, 0, 0, 0) := rfl
theorem i_112_207 : ins 112 207 = some (.getfield 72, 210, 7, 24, 0, 0) := rfl
theorem i_112_210 : ins 112 210 = some (.iload_n 2, 211, 2, 0, 0, 0) := rfl
theorem i_112_211 : ins 112 211 = some (.iaload, 212, 0, 0, 0, 0) := rfl
theorem i_112_212 : ins 112 212 = some (.iload_n 3, 213, 3, 0, 0, 0) := rfl
theorem i_112_213 : ins 112 213 = some (.if_icmp .ne 49, 216, 262, 0, 0, 0) := rfl
theorem i_112_216 : ins 112 216 = some (.iload 4, 218, 4, 0, 0, 0) := rfl
theorem i_112_218 : ins 112 218 = some (.ifCond .eq 44, 221, 262, 0, 0, 0) := rfl
theorem i_112_221 : ins 112 221 = some (.aload_n 0, 222, 0, 0, 0, 0) := rfl
theorem i_112_222 : ins 112 222 = some (.getfield 78, 225, 7, 26, 0, 0) := rfl
theorem i_112_225 : ins 112 225 = some (.iload_n 1, 226, 1, 0, 0, 0) := rfl
theorem i_112_226 : ins 112 226 = some (.iaload, 227, 0, 0, 0, 0) := rfl
theorem i_112_227 : ins 112 227 = some (.aload_n 0, 228, 0, 0, 0, 0) := rfl
theorem i_112_228 : ins 112 228 = some (.getfield 78, 231, 7, 26, 0, 0) := rfl
theorem i_112_231 : ins 112 231 = some (.iload_n 2, 232, 2, 0, 0, 0) := rfl
theorem i_112_232 : ins 112 232 = some (.iaload, 233, 0, 0, 0, 0) := rfl
theorem i_112_233 : ins 112 233 = some (.iadd, 234, 0, 0, 0, 0) := rfl
theorem i_112_234 : ins 112 234 = some (.bipush 10, 236, 0, 0, 0, 10) := rfl
theorem i_112_236 : ins 112 236 = some (.if_icmp .gt 26, 239, 262, 0, 0, 0) := rfl
theorem i_112_239 : ins 112 239 = some (.aload_n 0, 240, 0, 0, 0, 0) := rfl
theorem i_112_240 : ins 112 240 = some (.iload_n 1, 241, 1, 0, 0, 0) := rfl
theorem i_112_241 : ins 112 241 = some (.iload_n 2, 242, 2, 0, 0, 0) := rfl
theorem i_112_242 : ins 112 242 = some (.iconst 1, 243, 0, 0, 0, 1) := rfl
theorem i_112_243 : ins 112 243 = some (.aload_n 0, 244, 0, 0, 0, 0) := rfl
theorem i_112_244 : ins 112 244 = some (.getfield 69, 247, 7, 23, 0, 0) := rfl
theorem i_112_247 : ins 112 247 = some (.iload_n 1, 248, 1, 0, 0, 0) := rfl
theorem i_112_248 : ins 112 248 = some (.iaload, 249, 0, 0, 0, 0) := rfl
theorem i_112_249 : ins 112 249 = some (.iadd, 250, 0, 0, 0, 0) := rfl
theorem i_112_250 : ins 112 250 = some (.invokevirtual 214, 253, 113, 0, 4, 0) := rfl
theorem i_112_262 : ins 112 262 = some (.iload 7, 264, 7, 0, 0, 0) := rfl
theorem i_112_264 : ins 112 264 = some (.ifCond .eq 56, 267, 320, 0, 0, 0) := rfl
theorem i_112_267 : ins 112 267 = some (.aload_n 0, 268, 0, 0, 0, 0) := rfl
theorem i_112_268 : ins 112 268 = some (.getfield 72, 271, 7, 24, 0, 0) := rfl
theorem i_112_271 : ins 112 271 = some (.iload_n 3, 272, 3, 0, 0, 0) := rfl
theorem i_112_272 : ins 112 272 = some (.iaload, 273, 0, 0, 0, 0) := rfl
theorem i_112_273 : ins 112 273 = some (.iload_n 2, 274, 2, 0, 0, 0) := rfl
theorem i_112_274 : ins 112 274 = some (.if_icmp .ne 46, 277, 320, 0, 0, 0) := rfl
theorem i_112_277 : ins 112 277 = some (.iload 5, 279, 5, 0, 0, 0) := rfl
theorem i_112_279 : ins 112 279 = some (.ifCond .eq 41, 282, 320, 0, 0, 0) := rfl
theorem i_112_282 : ins 112 282 = some (.aload_n 0, 283, 0, 0, 0, 0) := rfl
theorem i_112_283 : ins 112 283 = some (.getfield 78, 286, 7, 26, 0, 0) := rfl
theorem i_112_286 : ins 112 286 = some (.iload_n 1, 287, 1, 0, 0, 0) := rfl
theorem i_112_287 : ins 112 287 = some (.iaload, 288, 0, 0, 0, 0) := rfl
theorem i_112_288 : ins 112 288 = some (.aload_n 0, 289, 0, 0, 0, 0) := rfl
theorem i_112_289 : ins 112 289 = some (.getfield 78, 292, 7, 26, 0, 0) := rfl
theorem i_112_292 : ins 112 292 = some (.iload_n 3, 293, 3, 0, 0, 0) := rfl
theorem i_112_293 : ins 112 293 = some (.iaload, 294, 0, 0, 0, 0) := rfl
theorem i_112_294 : ins 112 294 = some (.iadd, 295, 0, 0, 0, 0) := rfl
theorem i_112_295 : ins 112 295 = some (.bipush 10, 297, 0, 0, 0, 10) := rfl
theorem i_112_297 : ins 112 297 = some (.if_icmp .gt 23, 300, 320, 0, 0, 0) := rfl
theorem i_112_300 : ins 112 300 = some (.aload_n 0, 301, 0, 0, 0, 0) := rfl
theorem i_112_301 : ins 112 301 = some (.iload_n 1, 302, 1, 0, 0, 0) := rfl
theorem i_112_302 : ins 112 302 = some (.iload_n 3, 303, 3, 0, 0, 0) := rfl
theorem i_112_303 : ins 112 303 = some (.iconst (-1), 304, 0, 0, 0, (-1)) := rfl
theorem i_112_304 : ins 112 304 = some (.aload_n 0, 305, 0, 0, 0, 0) := rfl
theorem i_112_305 : ins 112 305 = some (.getfield 69, 308, 7, 23, 0, 0) := rfl
theorem i_112_308 : ins 112 308 = some (.iload_n 1, 309, 1, 0, 0, 0) := rfl
theorem i_112_309 : ins 112 309 = some (.iaload, 310, 0, 0, 0, 0) := rfl
theorem i_112_310 : ins 112 310 = some (.isub, 311, 0, 0, 0, 0) := rfl
theorem i_112_311 : ins 112 311 = some (.invokevirtual 214, 314, 113, 0, 4, 0) := rfl
theorem i_112_320 : ins 112 320 = some (.return_, 321, 0, 0, 0, 0) := rfl
theorem S112_99 {Q : Ou → Prop} {M : Mem} {κ : Kp} (hκ : Rd κ) {x t u : Nat} (hx : x < 6) (ht : t < 6) (hu : u < 6) {cx ct cu tt tu : Nat} {vx : Int32} (hcx : cx ≤ 10) (hct : ct ≤ 10) (hcu : cu ≤ 10) (htt : tt ≤ 10) (htu : tu ≤ 10) (h1x : M 148 x = vx) (h2t : M 149 t = nI tt) (h2u : M 149 u = nI tu) (h4x : M 151 x = nI cx) (h4t : M 151 t = nI ct) (h4u : M 151 u = nI cu) {ft : Bool} {fu : Bool} {jt : Bool} {ju : Bool}
    (k1 : jt = true → ju = true → tt = tu → ft = true → fu = true → 10 < ((cx + ct) + cu) → RT 112 (201, [.ref 134, .int (nI x), .int (nI t), .int (nI u), .int (bI ft), .int (bI fu), .int (bI jt), .int (bI ju)], [], M, κ) Q)
    (k2 : jt = true → ju = true → tt = tu → ft = true → fu = true → ¬ (10 < ((cx + ct) + cu)) → RT 113 (0, entL 113 [.ref 134, .int (nI x), .int (nI t), .int (1 + vx)], [], M, κ) (fun o => ∃ v M1 κ1, o = (.inl v, M1, κ1) ∧ RT 112 (173, [.ref 134, .int (nI x), .int (nI t), .int (nI u), .int (bI ft), .int (bI fu), .int (bI jt), .int (bI ju)], v.toList ++ [], M1, κ1) Q))
    (k3 : jt = true → ju = true → tt = tu → ft = true → ¬ (fu = true) → RT 112 (201, [.ref 134, .int (nI x), .int (nI t), .int (nI u), .int (bI ft), .int (bI fu), .int (bI jt), .int (bI ju)], [], M, κ) Q)
    (k4 : jt = true → ju = true → tt = tu → ¬ (ft = true) → RT 112 (201, [.ref 134, .int (nI x), .int (nI t), .int (nI u), .int (bI ft), .int (bI fu), .int (bI jt), .int (bI ju)], [], M, κ) Q)
    (k5 : jt = true → ju = true → ¬ (tt = tu) → RT 112 (201, [.ref 134, .int (nI x), .int (nI t), .int (nI u), .int (bI ft), .int (bI fu), .int (bI jt), .int (bI ju)], [], M, κ) Q)
    (k6 : jt = true → ¬ (ju = true) → RT 112 (201, [.ref 134, .int (nI x), .int (nI t), .int (nI u), .int (bI ft), .int (bI fu), .int (bI jt), .int (bI ju)], [], M, κ) Q)
    (k7 : ¬ (jt = true) → RT 112 (201, [.ref 134, .int (nI x), .int (nI t), .int (nI u), .int (bI ft), .int (bI fu), .int (bI jt), .int (bI ju)], [], M, κ) Q)
    : RT 112 (99, [.ref 134, .int (nI x), .int (nI t), .int (nI u), .int (bI ft), .int (bI fu), .int (bI jt), .int (bI ju)], [], M, κ) Q := by
  refine w_load i_112_99 rfl rfl ?_
  refine w_if0n (jt = true) i_112_101 cB_eq ?_ ?_
  · intro h1
    refine w_load i_112_104 rfl rfl ?_
    refine w_if0n (ju = true) i_112_106 cB_eq ?_ ?_
    · intro h2
      refine w_load i_112_109 rfl rfl ?_
      refine w_getR 149 i_112_110 hκ (⟨rfl, by decide⟩ : isOb 134 7) rfl rfl ?_
      refine w_load i_112_113 rfl rfl ?_
      refine w_ialdN (e := t) (v := (nI tt)) i_112_114 hκ (⟨rfl, rfl, by decide⟩ : isAr 149 6) (by omega) (by decide) (h2t) ?_
      refine w_load i_112_115 rfl rfl ?_
      refine w_getR 149 i_112_116 hκ (⟨rfl, by decide⟩ : isOb 134 7) rfl rfl ?_
      refine w_load i_112_119 rfl rfl ?_
      refine w_ialdN (e := u) (v := (nI tu)) i_112_120 hκ (⟨rfl, rfl, by decide⟩ : isAr 149 6) (by omega) (by decide) (h2u) ?_
      refine w_if2n (tt = tu) i_112_121 (cN_ne (a := tt) (b := tu) (by omega) (by omega)) ?_ ?_
      · intro h3
        refine w_load i_112_124 rfl rfl ?_
        refine w_if0n (ft = true) i_112_126 cB_eq ?_ ?_
        · intro h4
          refine w_load i_112_129 rfl rfl ?_
          refine w_if0n (fu = true) i_112_131 cB_eq ?_ ?_
          · intro h5
            refine w_load i_112_134 rfl rfl ?_
            refine w_getR 151 i_112_135 hκ (⟨rfl, by decide⟩ : isOb 134 7) rfl rfl ?_
            refine w_load i_112_138 rfl rfl ?_
            refine w_ialdN (e := x) (v := (nI cx)) i_112_139 hκ (⟨rfl, rfl, by decide⟩ : isAr 151 6) (by omega) (by decide) (h4x) ?_
            refine w_load i_112_140 rfl rfl ?_
            refine w_getR 151 i_112_141 hκ (⟨rfl, by decide⟩ : isOb 134 7) rfl rfl ?_
            refine w_load i_112_144 rfl rfl ?_
            refine w_ialdN (e := t) (v := (nI ct)) i_112_145 hκ (⟨rfl, rfl, by decide⟩ : isAr 151 6) (by omega) (by decide) (h4t) ?_
            refine w_bin (w := (nI (cx + ct))) i_112_146 rfl (nI_add cx ct) ?_
            refine w_load i_112_147 rfl rfl ?_
            refine w_getR 151 i_112_148 hκ (⟨rfl, by decide⟩ : isOb 134 7) rfl rfl ?_
            refine w_load i_112_151 rfl rfl ?_
            refine w_ialdN (e := u) (v := (nI cu)) i_112_152 hκ (⟨rfl, rfl, by decide⟩ : isAr 151 6) (by omega) (by decide) (h4u) ?_
            refine w_bin (w := (nI ((cx + ct) + cu))) i_112_153 rfl (nI_add (cx + ct) cu) ?_
            refine w_push i_112_154 rfl ?_
            refine w_if2 (10 < ((cx + ct) + cu)) i_112_156 (cN_gt (a := ((cx + ct) + cu)) (b := 10) (by omega) (by omega)) ?_ ?_
            · intro h6
              exact (k1 h1 h2 h3 h4 h5 h6)
            · intro h7
              refine w_load i_112_159 rfl rfl ?_
              refine w_load i_112_160 rfl rfl ?_
              refine w_load i_112_161 rfl rfl ?_
              refine w_push i_112_162 rfl ?_
              refine w_load i_112_163 rfl rfl ?_
              refine w_getR 148 i_112_164 hκ (⟨rfl, by decide⟩ : isOb 134 7) rfl rfl ?_
              refine w_load i_112_167 rfl rfl ?_
              refine w_ialdN (e := x) (v := vx) i_112_168 hκ (⟨rfl, rfl, by decide⟩ : isAr 148 6) (by omega) (by decide) (h1x) ?_
              refine w_bin (w := (1 + vx)) i_112_169 rfl rfl ?_
              exact w_callVI (i := _) i_112_170 ⟨by decide, by decide, by decide, rfl⟩ hκ (⟨rfl, by decide⟩ : isOb 134 7) (av := [.int (nI x), .int (nI t), .int (1 + vx)]) (rest := []) rfl rfl (Nat.le_of_ble_eq_true rfl) (k2 h1 h2 h3 h4 h5 h7)
          · intro h8
            exact (k3 h1 h2 h3 h4 h8)
        · intro h9
          exact (k4 h1 h2 h3 h9)
      · intro h10
        exact (k5 h1 h2 h10)
    · intro h11
      exact (k6 h1 h11)
  · intro h12
    exact (k7 h12)
theorem S112_201 {Q : Ou → Prop} {M : Mem} {κ : Kp} (hκ : Rd κ) {x t u : Nat} (hx : x < 6) (ht : t < 6) (hu : u < 6) {cx ct cu tt tu : Nat} {vx : Int32} (hcx : cx ≤ 10) (hct : ct ≤ 10) (hcu : cu ≤ 10) (htt : tt ≤ 10) (htu : tu ≤ 10) (h1x : M 148 x = vx) (h2t : M 149 t = nI tt) (h2u : M 149 u = nI tu) (h4x : M 151 x = nI cx) (h4t : M 151 t = nI ct) (h4u : M 151 u = nI cu) {ft : Bool} {fu : Bool} {jt : Bool} {ju : Bool}
    (k1 : jt = true → tt = u → ft = true → 10 < (cx + ct) → RT 112 (262, [.ref 134, .int (nI x), .int (nI t), .int (nI u), UU, .int (bI fu), UU, .int (bI ju)], [], M, κ) Q)
    (k2 : jt = true → tt = u → ft = true → ¬ (10 < (cx + ct)) → RT 113 (0, entL 113 [.ref 134, .int (nI x), .int (nI t), .int (1 + vx)], [], M, κ) (fun o => ∃ v M1 κ1, o = (.inl v, M1, κ1) ∧ RT 112 (253, [.ref 134, .int (nI x), .int (nI t), .int (nI u), .int (bI ft), .int (bI fu), .int (bI jt), .int (bI ju)], v.toList ++ [], M1, κ1) Q))
    (k3 : jt = true → tt = u → ¬ (ft = true) → RT 112 (262, [.ref 134, .int (nI x), .int (nI t), .int (nI u), UU, .int (bI fu), UU, .int (bI ju)], [], M, κ) Q)
    (k4 : jt = true → ¬ (tt = u) → RT 112 (262, [.ref 134, .int (nI x), .int (nI t), .int (nI u), UU, .int (bI fu), UU, .int (bI ju)], [], M, κ) Q)
    (k5 : ¬ (jt = true) → RT 112 (262, [.ref 134, .int (nI x), .int (nI t), .int (nI u), UU, .int (bI fu), UU, .int (bI ju)], [], M, κ) Q)
    : RT 112 (201, [.ref 134, .int (nI x), .int (nI t), .int (nI u), .int (bI ft), .int (bI fu), .int (bI jt), .int (bI ju)], [], M, κ) Q := by
  refine w_load i_112_201 rfl rfl ?_
  refine w_if0n (jt = true) i_112_203 cB_eq ?_ ?_
  · intro h1
    refine w_load i_112_206 rfl rfl ?_
    refine w_getR 149 i_112_207 hκ (⟨rfl, by decide⟩ : isOb 134 7) rfl rfl ?_
    refine w_load i_112_210 rfl rfl ?_
    refine w_ialdN (e := t) (v := (nI tt)) i_112_211 hκ (⟨rfl, rfl, by decide⟩ : isAr 149 6) (by omega) (by decide) (h2t) ?_
    refine w_load i_112_212 rfl rfl ?_
    refine w_if2n (tt = u) i_112_213 (cN_ne (a := tt) (b := u) (by omega) (by omega)) ?_ ?_
    · intro h2
      refine w_load i_112_216 rfl rfl ?_
      refine w_if0n (ft = true) i_112_218 cB_eq ?_ ?_
      · intro h3
        refine w_load i_112_221 rfl rfl ?_
        refine w_getR 151 i_112_222 hκ (⟨rfl, by decide⟩ : isOb 134 7) rfl rfl ?_
        refine w_load i_112_225 rfl rfl ?_
        refine w_ialdN (e := x) (v := (nI cx)) i_112_226 hκ (⟨rfl, rfl, by decide⟩ : isAr 151 6) (by omega) (by decide) (h4x) ?_
        refine w_load i_112_227 rfl rfl ?_
        refine w_getR 151 i_112_228 hκ (⟨rfl, by decide⟩ : isOb 134 7) rfl rfl ?_
        refine w_load i_112_231 rfl rfl ?_
        refine w_ialdN (e := t) (v := (nI ct)) i_112_232 hκ (⟨rfl, rfl, by decide⟩ : isAr 151 6) (by omega) (by decide) (h4t) ?_
        refine w_bin (w := (nI (cx + ct))) i_112_233 rfl (nI_add cx ct) ?_
        refine w_push i_112_234 rfl ?_
        refine w_if2 (10 < (cx + ct)) i_112_236 (cN_gt (a := (cx + ct)) (b := 10) (by omega) (by omega)) ?_ ?_
        · intro h4
          exact w_weak (lle_s (lle_s (lle_s (lle_s (lle_u (lle_s (lle_u (lle_s lle_n)))))))) (k1 h1 h2 h3 h4)
        · intro h5
          refine w_load i_112_239 rfl rfl ?_
          refine w_load i_112_240 rfl rfl ?_
          refine w_load i_112_241 rfl rfl ?_
          refine w_push i_112_242 rfl ?_
          refine w_load i_112_243 rfl rfl ?_
          refine w_getR 148 i_112_244 hκ (⟨rfl, by decide⟩ : isOb 134 7) rfl rfl ?_
          refine w_load i_112_247 rfl rfl ?_
          refine w_ialdN (e := x) (v := vx) i_112_248 hκ (⟨rfl, rfl, by decide⟩ : isAr 148 6) (by omega) (by decide) (h1x) ?_
          refine w_bin (w := (1 + vx)) i_112_249 rfl rfl ?_
          exact w_callVI (i := _) i_112_250 ⟨by decide, by decide, by decide, rfl⟩ hκ (⟨rfl, by decide⟩ : isOb 134 7) (av := [.int (nI x), .int (nI t), .int (1 + vx)]) (rest := []) rfl rfl (Nat.le_of_ble_eq_true rfl) (k2 h1 h2 h3 h5)
      · intro h6
        exact w_weak (lle_s (lle_s (lle_s (lle_s (lle_u (lle_s (lle_u (lle_s lle_n)))))))) (k3 h1 h2 h6)
    · intro h7
      exact w_weak (lle_s (lle_s (lle_s (lle_s (lle_u (lle_s (lle_u (lle_s lle_n)))))))) (k4 h1 h7)
  · intro h8
    exact w_weak (lle_s (lle_s (lle_s (lle_s (lle_u (lle_s (lle_u (lle_s lle_n)))))))) (k5 h8)
theorem S112_262 {Q : Ou → Prop} {M : Mem} {κ : Kp} (hκ : Rd κ) {x t u : Nat} (hx : x < 6) (ht : t < 6) (hu : u < 6) {cx ct cu tt tu : Nat} {vx : Int32} (hcx : cx ≤ 10) (hct : ct ≤ 10) (hcu : cu ≤ 10) (htt : tt ≤ 10) (htu : tu ≤ 10) (h1x : M 148 x = vx) (h2t : M 149 t = nI tt) (h2u : M 149 u = nI tu) (h4x : M 151 x = nI cx) (h4t : M 151 t = nI ct) (h4u : M 151 u = nI cu) {fu : Bool} {ju : Bool}
    (k1 : (((ju = true) ∧ (tu = t) ∧ (fu = true) ∧ (10 < (cx + cu))) ∨ ((ju = true) ∧ (tu = t) ∧ (¬ (fu = true))) ∨ ((ju = true) ∧ (¬ (tu = t))) ∨ (¬ (ju = true))) → Q (.inl none, M, κ))
    (k2 : ju = true → tu = t → fu = true → ¬ (10 < (cx + cu)) → RT 113 (0, entL 113 [.ref 134, .int (nI x), .int (nI u), .int ((-1) - vx)], [], M, κ) (fun o => ∃ v M1 κ1, o = (.inl v, M1, κ1) ∧ RT 112 (314, [.ref 134, .int (nI x), .int (nI t), .int (nI u), UU, .int (bI fu), UU, .int (bI ju)], v.toList ++ [], M1, κ1) Q))
    : RT 112 (262, [.ref 134, .int (nI x), .int (nI t), .int (nI u), UU, .int (bI fu), UU, .int (bI ju)], [], M, κ) Q := by
  refine w_load i_112_262 rfl rfl ?_
  have K1 : (((ju = true) ∧ (tu = t) ∧ (fu = true) ∧ (10 < (cx + cu))) ∨ ((ju = true) ∧ (tu = t) ∧ (¬ (fu = true))) ∨ ((ju = true) ∧ (¬ (tu = t))) ∨ (¬ (ju = true))) → RT 112 (320, [.ref 134, .int (nI x), .int (nI t), .int (nI u), UU, .int (bI fu), UU, .int (bI ju)], [], M, κ) Q := by
    intro h2
    exact w_vret i_112_320 rfl (k1 h2)
  refine w_if0n (ju = true) i_112_264 cB_eq ?_ ?_
  · intro h3
    refine w_load i_112_267 rfl rfl ?_
    refine w_getR 149 i_112_268 hκ (⟨rfl, by decide⟩ : isOb 134 7) rfl rfl ?_
    refine w_load i_112_271 rfl rfl ?_
    refine w_ialdN (e := u) (v := (nI tu)) i_112_272 hκ (⟨rfl, rfl, by decide⟩ : isAr 149 6) (by omega) (by decide) (h2u) ?_
    refine w_load i_112_273 rfl rfl ?_
    refine w_if2n (tu = t) i_112_274 (cN_ne (a := tu) (b := t) (by omega) (by omega)) ?_ ?_
    · intro h4
      refine w_load i_112_277 rfl rfl ?_
      refine w_if0n (fu = true) i_112_279 cB_eq ?_ ?_
      · intro h5
        refine w_load i_112_282 rfl rfl ?_
        refine w_getR 151 i_112_283 hκ (⟨rfl, by decide⟩ : isOb 134 7) rfl rfl ?_
        refine w_load i_112_286 rfl rfl ?_
        refine w_ialdN (e := x) (v := (nI cx)) i_112_287 hκ (⟨rfl, rfl, by decide⟩ : isAr 151 6) (by omega) (by decide) (h4x) ?_
        refine w_load i_112_288 rfl rfl ?_
        refine w_getR 151 i_112_289 hκ (⟨rfl, by decide⟩ : isOb 134 7) rfl rfl ?_
        refine w_load i_112_292 rfl rfl ?_
        refine w_ialdN (e := u) (v := (nI cu)) i_112_293 hκ (⟨rfl, rfl, by decide⟩ : isAr 151 6) (by omega) (by decide) (h4u) ?_
        refine w_bin (w := (nI (cx + cu))) i_112_294 rfl (nI_add cx cu) ?_
        refine w_push i_112_295 rfl ?_
        refine w_if2 (10 < (cx + cu)) i_112_297 (cN_gt (a := (cx + cu)) (b := 10) (by omega) (by omega)) ?_ ?_
        · intro h6
          exact (by first | exact (K1 (.inl ⟨h3, h4, h5, h6⟩)) | (have K9 := K1 (.inl ⟨h3, h4, h5, h6⟩); simp only [↓if_pos h3, ↓if_pos h4, ↓if_pos h5, ↓if_pos h6] at K9 ⊢; exact (K9)))
        · intro h7
          refine w_load i_112_300 rfl rfl ?_
          refine w_load i_112_301 rfl rfl ?_
          refine w_load i_112_302 rfl rfl ?_
          refine w_push i_112_303 rfl ?_
          refine w_load i_112_304 rfl rfl ?_
          refine w_getR 148 i_112_305 hκ (⟨rfl, by decide⟩ : isOb 134 7) rfl rfl ?_
          refine w_load i_112_308 rfl rfl ?_
          refine w_ialdN (e := x) (v := vx) i_112_309 hκ (⟨rfl, rfl, by decide⟩ : isAr 148 6) (by omega) (by decide) (h1x) ?_
          refine w_bin (w := ((-1) - vx)) i_112_310 rfl rfl ?_
          exact w_callVI (i := _) i_112_311 ⟨by decide, by decide, by decide, rfl⟩ hκ (⟨rfl, by decide⟩ : isOb 134 7) (av := [.int (nI x), .int (nI u), .int ((-1) - vx)]) (rest := []) rfl rfl (Nat.le_of_ble_eq_true rfl) (k2 h3 h4 h5 h7)
      · intro h8
        exact (by first | exact (K1 (.inr (.inl ⟨h3, h4, h8⟩))) | (have K9 := K1 (.inr (.inl ⟨h3, h4, h8⟩)); simp only [↓if_pos h3, ↓if_pos h4, ↓if_neg h8] at K9 ⊢; exact (K9)))
    · intro h9
      exact (by first | exact (K1 (.inr (.inr (.inl ⟨h3, h9⟩)))) | (have K9 := K1 (.inr (.inr (.inl ⟨h3, h9⟩))); simp only [↓if_pos h3, ↓if_neg h9] at K9 ⊢; exact (K9)))
  · intro h10
    exact (by first | exact (K1 (.inr (.inr (.inr h10)))) | (have K9 := K1 (.inr (.inr (.inr h10))); simp only [↓if_neg h10] at K9 ⊢; exact (K9)))
theorem i_112_173 : ins 112 173 = some (.aload_n 0, 174, 0, 0, 0, 0) := rfl
theorem i_112_174 : ins 112 174 = some (.iload_n 1, 175, 1, 0, 0, 0) := rfl
theorem i_112_175 : ins 112 175 = some (.iload_n 3, 176, 3, 0, 0, 0) := rfl
theorem i_112_176 : ins 112 176 = some (.iconst (-1), 177, 0, 0, 0, (-1)) := rfl
theorem i_112_177 : ins 112 177 = some (.aload_n 0, 178, 0, 0, 0, 0) := rfl
theorem i_112_178 : ins 112 178 = some (.getfield 69, 181, 7, 23, 0, 0) := rfl
theorem i_112_181 : ins 112 181 = some (.iload_n 1, 182, 1, 0, 0, 0) := rfl
theorem i_112_182 : ins 112 182 = some (.iaload, 183, 0, 0, 0, 0) := rfl
theorem i_112_183 : ins 112 183 = some (.isub, 184, 0, 0, 0, 0) := rfl
theorem i_112_184 : ins 112 184 = some (.invokevirtual 214, 187, 113, 0, 4, 0) := rfl
theorem S112_173 {Q : Ou → Prop} {M : Mem} {κ : Kp} (hκ : Rd κ) {x t u : Nat} (hx : x < 6) (ht : t < 6) (hu : u < 6) {vx : Int32} (h1x : M 148 x = vx) 
    (k1 : RT 113 (0, entL 113 [.ref 134, .int (nI x), .int (nI u), .int ((-1) - vx)], [], M, κ) (fun o => ∃ v M1 κ1, o = (.inl v, M1, κ1) ∧ RT 112 (187, [.ref 134, .int (nI x), .int (nI t), .int (nI u), UU, UU, UU, UU], v.toList ++ [], M1, κ1) Q))
    : RT 112 (173, [.ref 134, .int (nI x), .int (nI t), .int (nI u), UU, UU, UU, UU], [], M, κ) Q := by
  refine w_load i_112_173 rfl rfl ?_
  refine w_load i_112_174 rfl rfl ?_
  refine w_load i_112_175 rfl rfl ?_
  refine w_push i_112_176 rfl ?_
  refine w_load i_112_177 rfl rfl ?_
  refine w_getR 148 i_112_178 hκ (⟨rfl, by decide⟩ : isOb 134 7) rfl rfl ?_
  refine w_load i_112_181 rfl rfl ?_
  refine w_ialdN (e := x) (v := vx) i_112_182 hκ (⟨rfl, rfl, by decide⟩ : isAr 148 6) (by omega) (by decide) (h1x) ?_
  refine w_bin (w := ((-1) - vx)) i_112_183 rfl rfl ?_
  exact w_callVI (i := _) i_112_184 ⟨by decide, by decide, by decide, rfl⟩ hκ (⟨rfl, by decide⟩ : isOb 134 7) (av := [.int (nI x), .int (nI u), .int ((-1) - vx)]) (rest := []) rfl rfl (Nat.le_of_ble_eq_true rfl) (k1)
theorem i_112_187 : ins 112 187 = some (.aload_n 0, 188, 0, 0, 0, 0) := rfl
theorem i_112_188 : ins 112 188 = some (.iload_n 1, 189, 1, 0, 0, 0) := rfl
theorem i_112_189 : ins 112 189 = some (.aload_n 0, 190, 0, 0, 0, 0) := rfl
theorem i_112_190 : ins 112 190 = some (.getfield 72, 193, 7, 24, 0, 0) := rfl
theorem i_112_193 : ins 112 193 = some (.iload_n 2, 194, 2, 0, 0, 0) := rfl
theorem i_112_194 : ins 112 194 = some (.iaload, 195, 0, 0, 0, 0) := rfl
theorem i_112_195 : ins 112 195 = some (.invokevirtual 218, 198, 114, 0, 3, 0) := rfl
theorem S112_187 {Q : Ou → Prop} {M : Mem} {κ : Kp} (hκ : Rd κ) {x t tt : Nat} (hx : x < 6) (ht : t < 6) (h2t : M 149 t = nI tt) 
    (k1 : RT 114 (0, entL 114 [.ref 134, .int (nI x), .int (nI tt)], [], M, κ) (fun o => ∃ v M1 κ1, o = (.inl v, M1, κ1) ∧ RT 112 (198, [.ref 134, .int (nI x), .int (nI t), UU, UU, UU, UU, UU], v.toList ++ [], M1, κ1) Q))
    : RT 112 (187, [.ref 134, .int (nI x), .int (nI t), UU, UU, UU, UU, UU], [], M, κ) Q := by
  refine w_load i_112_187 rfl rfl ?_
  refine w_load i_112_188 rfl rfl ?_
  refine w_load i_112_189 rfl rfl ?_
  refine w_getR 149 i_112_190 hκ (⟨rfl, by decide⟩ : isOb 134 7) rfl rfl ?_
  refine w_load i_112_193 rfl rfl ?_
  refine w_ialdN (e := t) (v := (nI tt)) i_112_194 hκ (⟨rfl, rfl, by decide⟩ : isAr 149 6) (by omega) (by decide) (h2t) ?_
  exact w_callVI (i := _) i_112_195 ⟨by decide, by decide, by decide, rfl⟩ hκ (⟨rfl, by decide⟩ : isOb 134 7) (av := [.int (nI x), .int (nI tt)]) (rest := []) rfl rfl (Nat.le_of_ble_eq_true rfl) (k1)
theorem i_112_253 : ins 112 253 = some (.aload_n 0, 254, 0, 0, 0, 0) := rfl
theorem i_112_254 : ins 112 254 = some (.iload_n 1, 255, 1, 0, 0, 0) := rfl
theorem i_112_255 : ins 112 255 = some (.iload_n 3, 256, 3, 0, 0, 0) := rfl
theorem i_112_256 : ins 112 256 = some (.invokevirtual 218, 259, 114, 0, 3, 0) := rfl
theorem S112_253 {Q : Ou → Prop} {M : Mem} {κ : Kp} (hκ : Rd κ) {x u : Nat} (hx : x < 6) (hu : u < 6) 
    (k1 : RT 114 (0, entL 114 [.ref 134, .int (nI x), .int (nI u)], [], M, κ) (fun o => ∃ v M1 κ1, o = (.inl v, M1, κ1) ∧ RT 112 (259, [.ref 134, .int (nI x), UU, .int (nI u), UU, UU, UU, UU], v.toList ++ [], M1, κ1) Q))
    : RT 112 (253, [.ref 134, .int (nI x), UU, .int (nI u), UU, UU, UU, UU], [], M, κ) Q := by
  refine w_load i_112_253 rfl rfl ?_
  refine w_load i_112_254 rfl rfl ?_
  refine w_load i_112_255 rfl rfl ?_
  exact w_callVI (i := _) i_112_256 ⟨by decide, by decide, by decide, rfl⟩ hκ (⟨rfl, by decide⟩ : isOb 134 7) (av := [.int (nI x), .int (nI u)]) (rest := []) rfl rfl (Nat.le_of_ble_eq_true rfl) (k1)
theorem i_112_314 : ins 112 314 = some (.aload_n 0, 315, 0, 0, 0, 0) := rfl
theorem i_112_315 : ins 112 315 = some (.iload_n 1, 316, 1, 0, 0, 0) := rfl
theorem i_112_316 : ins 112 316 = some (.iload_n 2, 317, 2, 0, 0, 0) := rfl
theorem i_112_317 : ins 112 317 = some (.invokevirtual 218, 320, 114, 0, 3, 0) := rfl
theorem S112_314 {Q : Ou → Prop} {M : Mem} {κ : Kp} (hκ : Rd κ) {x t : Nat} (hx : x < 6) (ht : t < 6) 
    (k1 : RT 114 (0, entL 114 [.ref 134, .int (nI x), .int (nI t)], [], M, κ) (fun o => ∃ v M1 κ1, o = (.inl v, M1, κ1) ∧ RT 112 (320, [.ref 134, .int (nI x), .int (nI t), UU, UU, UU, UU, UU], v.toList ++ [], M1, κ1) Q))
    : RT 112 (314, [.ref 134, .int (nI x), .int (nI t), UU, UU, UU, UU, UU], [], M, κ) Q := by
  refine w_load i_112_314 rfl rfl ?_
  refine w_load i_112_315 rfl rfl ?_
  refine w_load i_112_316 rfl rfl ?_
  exact w_callVI (i := _) i_112_317 ⟨by decide, by decide, by decide, rfl⟩ hκ (⟨rfl, by decide⟩ : isOb 134 7) (av := [.int (nI x), .int (nI t)]) (rest := []) rfl rfl (Nat.le_of_ble_eq_true rfl) (k1)
theorem i_112_198 : ins 112 198 = some (.goto 122, 201, 320, 0, 0, 0) := rfl
theorem i_112_259 : ins 112 259 = some (.goto 61, 262, 320, 0, 0, 0) := rfl
theorem S112_198 {Q : Ou → Prop} {M : Mem} {κ : Kp} (hκ : Rd κ)  
    (k1 : Q (.inl none, M, κ))
    : RT 112 (198, [UU, UU, UU, UU, UU, UU, UU, UU], [], M, κ) Q := by
  refine w_goto i_112_198 ?_
  exact w_vret i_112_320 rfl (k1)
theorem S112_259 {Q : Ou → Prop} {M : Mem} {κ : Kp} (hκ : Rd κ)  
    (k1 : Q (.inl none, M, κ))
    : RT 112 (259, [UU, UU, UU, UU, UU, UU, UU, UU], [], M, κ) Q := by
  refine w_goto i_112_259 ?_
  exact w_vret i_112_320 rfl (k1)
theorem S112_320 {Q : Ou → Prop} {M : Mem} {κ : Kp} (hκ : Rd κ)  
    (k1 : Q (.inl none, M, κ))
    : RT 112 (320, [UU, UU, UU, UU, UU, UU, UU, UU], [], M, κ) Q := by
  exact w_vret i_112_320 rfl (k1)
theorem i_111_0 : ins 111 0 = some (.iload_n 1, 1, 1, 0, 0, 0) := rfl
theorem i_111_1 : ins 111 1 = some (.ifCond .eq 12, 4, 13, 0, 0, 0) := rfl
theorem i_111_4 : ins 111 4 = some (.iload_n 1, 5, 1, 0, 0, 0) := rfl
theorem i_111_5 : ins 111 5 = some (.iload_n 2, 6, 2, 0, 0, 0) := rfl
theorem i_111_6 : ins 111 6 = some (.if_icmp .eq 7, 9, 13, 0, 0, 0) := rfl
theorem i_111_9 : ins 111 9 = some (.iconst 1, 10, 0, 0, 0, 1) := rfl
theorem i_111_10 : ins 111 10 = some (.goto 4, 13, 14, 0, 0, 0) := rfl
theorem i_111_13 : ins 111 13 = some (.iconst 0, 14, 0, 0, 0, 0) := rfl
theorem i_111_14 : ins 111 14 = some (.istore_n 3, 15, 3, 0, 0, 0) := rfl
theorem i_111_15 : ins 111 15 = some (.iconst 0, 16, 0, 0, 0, 0) := rfl
theorem i_111_16 : ins 111 16 = some (.istore 4, 18, 4, 0, 0, 0) := rfl
theorem S111_0 {Q : Ou → Prop} {M : Mem} {κ : Kp} (hκ : Rd κ) {x y : Nat} (hx : x < 6) (hy : y < 6) 
    (k1 : RT 111 (18, [.ref 134, .int (nI y), .int (nI x), .int (bI (if y = 0 then false else (if y = x then false else true))), .int (nI 0), UU], [], M, κ) Q)
    : RT 111 (0, [.ref 134, .int (nI y), .int (nI x), UU, UU, UU], [], M, κ) Q := by
  refine w_load i_111_0 rfl rfl ?_
  have K1 : RT 111 (14, [.ref 134, .int (nI y), .int (nI x), UU, UU, UU], [.int (bI (if y = 0 then false else (if y = x then false else true)))], M, κ) Q := by
    refine w_store (l1 := [.ref 134, .int (nI y), .int (nI x), .int (bI (if y = 0 then false else (if y = x then false else true))), UU, UU]) i_111_14 rfl (Nat.le_of_ble_eq_true rfl) rfl ?_
    refine w_push i_111_15 rfl ?_
    refine w_store (l1 := [.ref 134, .int (nI y), .int (nI x), .int (bI (if y = 0 then false else (if y = x then false else true))), .int 0, UU]) i_111_16 rfl (Nat.le_of_ble_eq_true rfl) rfl ?_
    exact (k1)
  refine w_if0 (y = 0) i_111_1 (cZ_eq (a := y) (by omega) (by decide)) ?_ ?_
  · intro h2
    refine w_push i_111_13 rfl ?_
    exact (by first | exact (K1) | (have K9 := K1; simp only [↓if_pos h2] at K9 ⊢; exact (K9)))
  · intro h3
    refine w_load i_111_4 rfl rfl ?_
    refine w_load i_111_5 rfl rfl ?_
    refine w_if2 (y = x) i_111_6 (cN_eq (a := y) (b := x) (by omega) (by omega)) ?_ ?_
    · intro h4
      refine w_push i_111_13 rfl ?_
      exact (by first | exact (K1) | (have K9 := K1; simp only [↓if_neg h3, ↓if_pos h4] at K9 ⊢; exact (K9)))
    · intro h5
      refine w_push i_111_9 rfl ?_
      refine w_goto i_111_10 ?_
      exact (by first | exact (K1) | (have K9 := K1; simp only [↓if_neg h3, ↓if_neg h5] at K9 ⊢; exact (K9)))
theorem i_111_18 : ins 111 18 = some (.iload 4, 20, 4, 0, 0, 0) := rfl
theorem i_111_20 : ins 111 20 = some (.aload_n 0, 21, 0, 0, 0, 0) := rfl
theorem i_111_21 : ins 111 21 = some (.getfield 196, 24, 7, 20, 0, 0) := rfl
theorem i_111_24 : ins 111 24 = some (.if_icmp .ge 95, 27, 119, 0, 0, 0) := rfl
theorem i_111_27 : ins 111 27 = some (.aload_n 0, 28, 0, 0, 0, 0) := rfl
theorem i_111_28 : ins 111 28 = some (.getfield 66, 31, 7, 22, 0, 0) := rfl
theorem i_111_31 : ins 111 31 = some (.iload 4, 33, 4, 0, 0, 0) := rfl
theorem i_111_33 : ins 111 33 = some (.iaload, 34, 0, 0, 0, 0) := rfl
theorem i_111_34 : ins 111 34 = some (.invokestatic 177, 37, 103, 1, 1, 0) := rfl
theorem i_111_37 : ins 111 37 = some (.ifCond .eq 14, 40, 51, 0, 0, 0) := rfl
theorem i_111_40 : ins 111 40 = some (.aload_n 0, 41, 0, 0, 0, 0) := rfl
theorem i_111_41 : ins 111 41 = some (.getfield 72, 44, 7, 24, 0, 0) := rfl
theorem i_111_44 : ins 111 44 = some (.iload 4, 46, 4, 0, 0, 0) := rfl
theorem i_111_46 : ins 111 46 = some (.iaload, 47, 0, 0, 0, 0) := rfl
theorem i_111_47 : ins 111 47 = some (.iload_n 1, 48, 1, 0, 0, 0) := rfl
theorem i_111_48 : ins 111 48 = some (.if_icmp .eq 27, 51, 75, 0, 0, 0) := rfl
theorem i_111_51 : ins 111 51 = some (.aload_n 0, 52, 0, 0, 0, 0) := rfl
theorem i_111_52 : ins 111 52 = some (.getfield 66, 55, 7, 22, 0, 0) := rfl
theorem i_111_55 : ins 111 55 = some (.iload 4, 57, 4, 0, 0, 0) := rfl
theorem i_111_57 : ins 111 57 = some (.iaload, 58, 0, 0, 0, 0) := rfl
theorem i_111_58 : ins 111 58 = some (.invokestatic 180, 61, 104, 1, 1, 0) := rfl
theorem i_111_61 : ins 111 61 = some (.ifCond .eq 18, 64, 79, 0, 0, 0) := rfl
theorem i_111_64 : ins 111 64 = some (.aload_n 0, 65, 0, 0, 0, 0) := rfl
theorem i_111_65 : ins 111 65 = some (.getfield 75, 68, 7, 25, 0, 0) := rfl
theorem i_111_68 : ins 111 68 = some (.iload 4, 70, 4, 0, 0, 0) := rfl
theorem i_111_70 : ins 111 70 = some (.iaload, 71, 0, 0, 0, 0) := rfl
theorem i_111_71 : ins 111 71 = some (.iload_n 1, 72, 1, 0, 0, 0) := rfl
theorem i_111_72 : ins 111 72 = some (.if_icmp .ne 7, 75, 79, 0, 0, 0) := rfl
theorem i_111_75 : ins 111 75 = some (.iconst 1, 76, 0, 0, 0, 1) := rfl
theorem i_111_76 : ins 111 76 = some (.goto 4, 79, 80, 0, 0, 0) := rfl
theorem i_111_79 : ins 111 79 = some (.iconst 0, 80, 0, 0, 0, 0) := rfl
theorem i_111_80 : ins 111 80 = some (.istore 5, 82, 5, 0, 0, 0) := rfl
theorem i_111_82 : ins 111 82 = some (.iload_n 3, 83, 3, 0, 0, 0) := rfl
theorem i_111_83 : ins 111 83 = some (.ifCond .eq 28, 86, 111, 0, 0, 0) := rfl
theorem i_111_86 : ins 111 86 = some (.aload_n 0, 87, 0, 0, 0, 0) := rfl
theorem i_111_87 : ins 111 87 = some (.getfield 62, 90, 7, 21, 0, 0) := rfl
theorem i_111_90 : ins 111 90 = some (.iload 4, 92, 4, 0, 0, 0) := rfl
theorem i_111_92 : ins 111 92 = some (.baload, 93, 0, 0, 0, 0) := rfl
theorem i_111_93 : ins 111 93 = some (.ifCond .ne 14, 96, 107, 0, 0, 0) := rfl
theorem i_111_96 : ins 111 96 = some (.iload 4, 98, 4, 0, 0, 0) := rfl
theorem i_111_98 : ins 111 98 = some (.iload_n 2, 99, 2, 0, 0, 0) := rfl
theorem i_111_99 : ins 111 99 = some (.if_icmp .eq 8, 102, 107, 0, 0, 0) := rfl
theorem i_111_102 : ins 111 102 = some (.iload 5, 104, 5, 0, 0, 0) := rfl
theorem i_111_104 : ins 111 104 = some (.ifCond .ne 7, 107, 111, 0, 0, 0) := rfl
theorem i_111_107 : ins 111 107 = some (.iconst 1, 108, 0, 0, 0, 1) := rfl
theorem i_111_108 : ins 111 108 = some (.goto 4, 111, 112, 0, 0, 0) := rfl
theorem i_111_111 : ins 111 111 = some (.iconst 0, 112, 0, 0, 0, 0) := rfl
theorem i_111_112 : ins 111 112 = some (.istore_n 3, 113, 3, 0, 0, 0) := rfl
theorem i_111_113 : ins 111 113 = some (.iinc 4 1, 116, 4, 0, 0, 1) := rfl
theorem i_111_116 : ins 111 116 = some (.goto (-98), 119, 18, 0, 0, 0) := rfl
theorem i_111_119 : ins 111 119 = some (.bipush 10, 121, 0, 0, 0, 10) := rfl
theorem i_111_121 : ins 111 121 = some (.iload_n 1, 122, 1, 0, 0, 0) := rfl
theorem i_111_122 : ins 111 122 = some (.imul, 123, 0, 0, 0, 0) := rfl
theorem i_111_123 : ins 111 123 = some (.istore 4, 125, 4, 0, 0, 0) := rfl
theorem S111_18 {Q : Ou → Prop} {M : Mem} {κ : Kp} (hκ : Rd κ) {x y nb z : Nat} {s : Ss} {f : Nat → Nat} (hx : x < 6) (hy : y < 6) (hnb6 : nb ≤ 6) (hz : z ≤ nb) (ht6 : z < nb → s.2.1 z < 6 ∧ f z < 6) (hnb : M 134 20 = nI nb) (hm146 : z < nb → M 146 z = bI (s.2.2.2.1 z)) (hm147 : z < nb → M 147 z = s.1 z) (hm149 : z < nb → M 149 z = nI (s.2.1 z)) (hm150 : z < nb → M 150 z = nI (f z)) {fr : Bool}
    (k1 : z < nb → RT 111 (18, [.ref 134, .int (nI y), .int (nI x), .int (bI (if fr = true then (if (s.2.2.2.1 z) = true then true else (if z = x then true else (if (if (goes (s.1 z)) = true then (if (s.2.1 z) = y then true else (if (forks (s.1 z)) = true then (if (f z) = y then true else false) else false)) else (if (forks (s.1 z)) = true then (if (f z) = y then true else false) else false)) = true then false else true))) else false)), .int (nI (z + 1)), UU], [], M, κ) Q)
    (k2 : ¬ (z < nb) → RT 111 (125, [.ref 134, .int (nI y), .int (nI x), .int (bI fr), .int (nI (10 * y)), UU], [], M, κ) Q)
    : RT 111 (18, [.ref 134, .int (nI y), .int (nI x), .int (bI fr), .int (nI z), UU], [], M, κ) Q := by
  refine w_load i_111_18 rfl rfl ?_
  refine w_load i_111_20 rfl rfl ?_
  refine w_getI (v := (nI nb)) i_111_21 hκ (⟨rfl, by decide⟩ : isOb 134 7) rfl (hnb) ?_
  refine w_if2n (z < nb) i_111_24 (cN_ge (a := z) (b := nb) (by omega) (by omega)) ?_ ?_
  · intro h1
    refine w_load i_111_27 rfl rfl ?_
    refine w_getR 147 i_111_28 hκ (⟨rfl, by decide⟩ : isOb 134 7) rfl rfl ?_
    refine w_load i_111_31 rfl rfl ?_
    refine w_ialdN (e := z) (v := (s.1 z)) i_111_33 hκ (⟨rfl, rfl, by decide⟩ : isAr 147 6) (by omega) (by decide) ((hm147 (by omega))) ?_
    refine w_callS i_111_34 ⟨by decide, by decide, by decide, rfl, rfl⟩ (av := [.int (s.1 z)]) (rest := []) rfl rfl (Nat.le_of_ble_eq_true rfl) (v := some (.int (bI (goes (s.1 z))))) (c103 hκ) ?_
    have K2 : RT 111 (80, [.ref 134, .int (nI y), .int (nI x), .int (bI fr), .int (nI z), UU], [.int (bI (if (goes (s.1 z)) = true then (if (s.2.1 z) = y then true else (if (forks (s.1 z)) = true then (if (f z) = y then true else false) else false)) else (if (forks (s.1 z)) = true then (if (f z) = y then true else false) else false)))], M, κ) Q := by
      refine w_store (l1 := [.ref 134, .int (nI y), .int (nI x), .int (bI fr), .int (nI z), .int (bI (if (goes (s.1 z)) = true then (if (s.2.1 z) = y then true else (if (forks (s.1 z)) = true then (if (f z) = y then true else false) else false)) else (if (forks (s.1 z)) = true then (if (f z) = y then true else false) else false)))]) i_111_80 rfl (Nat.le_of_ble_eq_true rfl) rfl ?_
      refine w_load i_111_82 rfl rfl ?_
      have K3 : RT 111 (112, [.ref 134, .int (nI y), .int (nI x), .int (bI fr), .int (nI z), .int (bI (if (goes (s.1 z)) = true then (if (s.2.1 z) = y then true else (if (forks (s.1 z)) = true then (if (f z) = y then true else false) else false)) else (if (forks (s.1 z)) = true then (if (f z) = y then true else false) else false)))], [.int (bI (if fr = true then (if (s.2.2.2.1 z) = true then true else (if z = x then true else (if (if (goes (s.1 z)) = true then (if (s.2.1 z) = y then true else (if (forks (s.1 z)) = true then (if (f z) = y then true else false) else false)) else (if (forks (s.1 z)) = true then (if (f z) = y then true else false) else false)) = true then false else true))) else false))], M, κ) Q := by
        refine w_store (l1 := [.ref 134, .int (nI y), .int (nI x), .int (bI (if fr = true then (if (s.2.2.2.1 z) = true then true else (if z = x then true else (if (if (goes (s.1 z)) = true then (if (s.2.1 z) = y then true else (if (forks (s.1 z)) = true then (if (f z) = y then true else false) else false)) else (if (forks (s.1 z)) = true then (if (f z) = y then true else false) else false)) = true then false else true))) else false)), .int (nI z), .int (bI (if (goes (s.1 z)) = true then (if (s.2.1 z) = y then true else (if (forks (s.1 z)) = true then (if (f z) = y then true else false) else false)) else (if (forks (s.1 z)) = true then (if (f z) = y then true else false) else false)))]) i_111_112 rfl (Nat.le_of_ble_eq_true rfl) rfl ?_
        refine w_iincN (n := z) (l1 := [.ref 134, .int (nI y), .int (nI x), .int (bI (if fr = true then (if (s.2.2.2.1 z) = true then true else (if z = x then true else (if (if (goes (s.1 z)) = true then (if (s.2.1 z) = y then true else (if (forks (s.1 z)) = true then (if (f z) = y then true else false) else false)) else (if (forks (s.1 z)) = true then (if (f z) = y then true else false) else false)) = true then false else true))) else false)), .int (nI (z + 1)), .int (bI (if (goes (s.1 z)) = true then (if (s.2.1 z) = y then true else (if (forks (s.1 z)) = true then (if (f z) = y then true else false) else false)) else (if (forks (s.1 z)) = true then (if (f z) = y then true else false) else false)))]) 1 i_111_113 rfl rfl ?_
        refine w_goto i_111_116 ?_
        exact w_weak (lle_s (lle_s (lle_s (lle_s (lle_s (lle_u lle_n)))))) (k1 h1)
      refine w_if0n (fr = true) i_111_83 cB_eq ?_ ?_
      · intro h4
        refine w_load i_111_86 rfl rfl ?_
        refine w_getR 146 i_111_87 hκ (⟨rfl, by decide⟩ : isOb 134 7) rfl rfl ?_
        refine w_load i_111_90 rfl rfl ?_
        refine w_zaldN (e := z) (v := (bI (s.2.2.2.1 z))) i_111_92 hκ (⟨rfl, rfl, by decide⟩ : isZr 146 6) (by omega) (by decide) ((hm146 (by omega))) ?_
        refine w_if0 ((s.2.2.2.1 z) = true) i_111_93 cB_ne ?_ ?_
        · intro h5
          refine w_push i_111_107 rfl ?_
          refine w_goto i_111_108 ?_
          exact (by first | exact (K3) | (have K9 := K3; simp only [↓if_pos h4, ↓if_pos h5] at K9 ⊢; exact (K9)))
        · intro h6
          refine w_load i_111_96 rfl rfl ?_
          refine w_load i_111_98 rfl rfl ?_
          refine w_if2 (z = x) i_111_99 (cN_eq (a := z) (b := x) (by omega) (by omega)) ?_ ?_
          · intro h7
            refine w_push i_111_107 rfl ?_
            refine w_goto i_111_108 ?_
            exact (by first | exact (K3) | (have K9 := K3; simp only [↓if_pos h4, ↓if_neg h6, ↓if_pos h7] at K9 ⊢; exact (K9)))
          · intro h8
            refine w_load i_111_102 rfl rfl ?_
            refine w_if0 ((if (goes (s.1 z)) = true then (if (s.2.1 z) = y then true else (if (forks (s.1 z)) = true then (if (f z) = y then true else false) else false)) else (if (forks (s.1 z)) = true then (if (f z) = y then true else false) else false)) = true) i_111_104 cB_ne ?_ ?_
            · intro h9
              refine w_push i_111_111 rfl ?_
              exact (by first | exact (K3) | (have K9 := K3; simp only [↓if_pos h4, ↓if_neg h6, ↓if_neg h8, ↓if_pos h9] at K9 ⊢; exact (K9)))
            · intro h10
              refine w_push i_111_107 rfl ?_
              refine w_goto i_111_108 ?_
              exact (by first | exact (K3) | (have K9 := K3; simp only [↓if_pos h4, ↓if_neg h6, ↓if_neg h8, ↓if_neg h10] at K9 ⊢; exact (K9)))
      · intro h11
        refine w_push i_111_111 rfl ?_
        exact (by first | exact (K3) | (have K9 := K3; simp only [↓if_neg h11] at K9 ⊢; exact (K9)))
    refine w_if0n ((goes (s.1 z)) = true) i_111_37 cB_eq ?_ ?_
    · intro h12
      refine w_load i_111_40 rfl rfl ?_
      refine w_getR 149 i_111_41 hκ (⟨rfl, by decide⟩ : isOb 134 7) rfl rfl ?_
      refine w_load i_111_44 rfl rfl ?_
      refine w_ialdN (e := z) (v := (nI (s.2.1 z))) i_111_46 hκ (⟨rfl, rfl, by decide⟩ : isAr 149 6) (by omega) (by decide) ((hm149 (by omega))) ?_
      refine w_load i_111_47 rfl rfl ?_
      refine w_if2 ((s.2.1 z) = y) i_111_48 (cN_eq (a := (s.2.1 z)) (b := y) (by omega) (by omega)) ?_ ?_
      · intro h13
        refine w_push i_111_75 rfl ?_
        refine w_goto i_111_76 ?_
        exact (by first | exact (K2) | (have K9 := K2; simp only [↓if_pos h12, ↓if_pos h13] at K9 ⊢; exact (K9)))
      · intro h14
        refine w_load i_111_51 rfl rfl ?_
        refine w_getR 147 i_111_52 hκ (⟨rfl, by decide⟩ : isOb 134 7) rfl rfl ?_
        refine w_load i_111_55 rfl rfl ?_
        refine w_ialdN (e := z) (v := (s.1 z)) i_111_57 hκ (⟨rfl, rfl, by decide⟩ : isAr 147 6) (by omega) (by decide) ((hm147 (by omega))) ?_
        refine w_callS i_111_58 ⟨by decide, by decide, by decide, rfl, rfl⟩ (av := [.int (s.1 z)]) (rest := []) rfl rfl (Nat.le_of_ble_eq_true rfl) (v := some (.int (bI (forks (s.1 z))))) (c104 hκ) ?_
        refine w_if0n ((forks (s.1 z)) = true) i_111_61 cB_eq ?_ ?_
        · intro h15
          refine w_load i_111_64 rfl rfl ?_
          refine w_getR 150 i_111_65 hκ (⟨rfl, by decide⟩ : isOb 134 7) rfl rfl ?_
          refine w_load i_111_68 rfl rfl ?_
          refine w_ialdN (e := z) (v := (nI (f z))) i_111_70 hκ (⟨rfl, rfl, by decide⟩ : isAr 150 6) (by omega) (by decide) ((hm150 (by omega))) ?_
          refine w_load i_111_71 rfl rfl ?_
          refine w_if2n ((f z) = y) i_111_72 (cN_ne (a := (f z)) (b := y) (by omega) (by omega)) ?_ ?_
          · intro h16
            refine w_push i_111_75 rfl ?_
            refine w_goto i_111_76 ?_
            exact (by first | exact (K2) | (have K9 := K2; simp only [↓if_pos h12, ↓if_neg h14, ↓if_pos h15, ↓if_pos h16] at K9 ⊢; exact (K9)))
          · intro h17
            refine w_push i_111_79 rfl ?_
            exact (by first | exact (K2) | (have K9 := K2; simp only [↓if_pos h12, ↓if_neg h14, ↓if_pos h15, ↓if_neg h17] at K9 ⊢; exact (K9)))
        · intro h18
          refine w_push i_111_79 rfl ?_
          exact (by first | exact (K2) | (have K9 := K2; simp only [↓if_pos h12, ↓if_neg h14, ↓if_neg h18] at K9 ⊢; exact (K9)))
    · intro h19
      refine w_load i_111_51 rfl rfl ?_
      refine w_getR 147 i_111_52 hκ (⟨rfl, by decide⟩ : isOb 134 7) rfl rfl ?_
      refine w_load i_111_55 rfl rfl ?_
      refine w_ialdN (e := z) (v := (s.1 z)) i_111_57 hκ (⟨rfl, rfl, by decide⟩ : isAr 147 6) (by omega) (by decide) ((hm147 (by omega))) ?_
      refine w_callS i_111_58 ⟨by decide, by decide, by decide, rfl, rfl⟩ (av := [.int (s.1 z)]) (rest := []) rfl rfl (Nat.le_of_ble_eq_true rfl) (v := some (.int (bI (forks (s.1 z))))) (c104 hκ) ?_
      refine w_if0n ((forks (s.1 z)) = true) i_111_61 cB_eq ?_ ?_
      · intro h20
        refine w_load i_111_64 rfl rfl ?_
        refine w_getR 150 i_111_65 hκ (⟨rfl, by decide⟩ : isOb 134 7) rfl rfl ?_
        refine w_load i_111_68 rfl rfl ?_
        refine w_ialdN (e := z) (v := (nI (f z))) i_111_70 hκ (⟨rfl, rfl, by decide⟩ : isAr 150 6) (by omega) (by decide) ((hm150 (by omega))) ?_
        refine w_load i_111_71 rfl rfl ?_
        refine w_if2n ((f z) = y) i_111_72 (cN_ne (a := (f z)) (b := y) (by omega) (by omega)) ?_ ?_
        · intro h21
          refine w_push i_111_75 rfl ?_
          refine w_goto i_111_76 ?_
          exact (by first | exact (K2) | (have K9 := K2; simp only [↓if_neg h19, ↓if_pos h20, ↓if_pos h21] at K9 ⊢; exact (K9)))
        · intro h22
          refine w_push i_111_79 rfl ?_
          exact (by first | exact (K2) | (have K9 := K2; simp only [↓if_neg h19, ↓if_pos h20, ↓if_neg h22] at K9 ⊢; exact (K9)))
      · intro h23
        refine w_push i_111_79 rfl ?_
        exact (by first | exact (K2) | (have K9 := K2; simp only [↓if_neg h19, ↓if_neg h23] at K9 ⊢; exact (K9)))
  · intro h24
    refine w_push i_111_119 rfl ?_
    refine w_load i_111_121 rfl rfl ?_
    refine w_bin (w := (nI (10 * y))) i_111_122 rfl (nI_mul 10 y) ?_
    refine w_store (l1 := [.ref 134, .int (nI y), .int (nI x), .int (bI fr), .int (nI (10 * y)), UU]) i_111_123 rfl (Nat.le_of_ble_eq_true rfl) rfl ?_
    exact (k2 h24)
theorem i_111_125 : ins 111 125 = some (.iload 4, 127, 4, 0, 0, 0) := rfl
theorem i_111_127 : ins 111 127 = some (.bipush 10, 129, 0, 0, 0, 10) := rfl
theorem i_111_129 : ins 111 129 = some (.iload_n 1, 130, 1, 0, 0, 0) := rfl
theorem i_111_130 : ins 111 130 = some (.imul, 131, 0, 0, 0, 0) := rfl
theorem i_111_131 : ins 111 131 = some (.aload_n 0, 132, 0, 0, 0, 0) := rfl
theorem i_111_132 : ins 111 132 = some (.getfield 78, 135, 7, 26, 0, 0) := rfl
theorem i_111_135 : ins 111 135 = some (.iload_n 1, 136, 1, 0, 0, 0) := rfl
theorem i_111_136 : ins 111 136 = some (.iaload, 137, 0, 0, 0, 0) := rfl
theorem i_111_137 : ins 111 137 = some (.iadd, 138, 0, 0, 0, 0) := rfl
theorem i_111_138 : ins 111 138 = some (.if_icmp .ge 58, 141, 196, 0, 0, 0) := rfl
theorem i_111_141 : ins 111 141 = some (.iload_n 3, 142, 3, 0, 0, 0) := rfl
theorem i_111_142 : ins 111 142 = some (.ifCond .eq 46, 145, 188, 0, 0, 0) := rfl
theorem i_111_145 : ins 111 145 = some (.aload_n 0, 146, 0, 0, 0, 0) := rfl
theorem i_111_146 : ins 111 146 = some (.getfield 96, 149, 7, 32, 0, 0) := rfl
theorem i_111_149 : ins 111 149 = some (.iload 4, 151, 4, 0, 0, 0) := rfl
theorem i_111_151 : ins 111 151 = some (.iaload, 152, 0, 0, 0, 0) := rfl
theorem i_111_152 : ins 111 152 = some (.ifCond .ne 36, 155, 188, 0, 0, 0) := rfl
theorem i_111_155 : ins 111 155 = some (.aload_n 0, 156, 0, 0, 0, 0) := rfl
theorem i_111_156 : ins 111 156 = some (.getfield 81, 159, 7, 27, 0, 0) := rfl
theorem i_111_159 : ins 111 159 = some (.iload 4, 161, 4, 0, 0, 0) := rfl
theorem i_111_161 : ins 111 161 = some (.iaload, 162, 0, 0, 0, 0) := rfl
theorem i_111_162 : ins 111 162 = some (.invokestatic 183, 165, 105, 1, 1, 0) := rfl
theorem i_111_165 : ins 111 165 = some (.ifCond .eq 19, 168, 184, 0, 0, 0) := rfl
theorem i_111_168 : ins 111 168 = some (.aload_n 0, 169, 0, 0, 0, 0) := rfl
theorem i_111_169 : ins 111 169 = some (.getfield 84, 172, 7, 28, 0, 0) := rfl
theorem i_111_172 : ins 111 172 = some (.iload 4, 174, 4, 0, 0, 0) := rfl
theorem i_111_174 : ins 111 174 = some (.iaload, 175, 0, 0, 0, 0) := rfl
theorem i_111_175 : ins 111 175 = some (.aload_n 0, 176, 0, 0, 0, 0) := rfl
theorem i_111_176 : ins 111 176 = some (.getfield 69, 179, 7, 23, 0, 0) := rfl
theorem i_111_179 : ins 111 179 = some (.iload_n 2, 180, 2, 0, 0, 0) := rfl
theorem i_111_180 : ins 111 180 = some (.iaload, 181, 0, 0, 0, 0) := rfl
theorem i_111_181 : ins 111 181 = some (.if_icmp .eq 7, 184, 188, 0, 0, 0) := rfl
theorem i_111_184 : ins 111 184 = some (.iconst 1, 185, 0, 0, 0, 1) := rfl
theorem i_111_185 : ins 111 185 = some (.goto 4, 188, 189, 0, 0, 0) := rfl
theorem i_111_188 : ins 111 188 = some (.iconst 0, 189, 0, 0, 0, 0) := rfl
theorem i_111_189 : ins 111 189 = some (.istore_n 3, 190, 3, 0, 0, 0) := rfl
theorem i_111_190 : ins 111 190 = some (.iinc 4 1, 193, 4, 0, 0, 1) := rfl
theorem i_111_193 : ins 111 193 = some (.goto (-68), 196, 125, 0, 0, 0) := rfl
theorem i_111_196 : ins 111 196 = some (.iload_n 3, 197, 3, 0, 0, 0) := rfl
theorem i_111_197 : ins 111 197 = some (.ireturn, 198, 0, 0, 0, 0) := rfl
theorem S111_125 {Q : Ou → Prop} {M : Mem} {κ : Kp} (hκ : Rd κ) {x y n2 k : Nat} {O : Op} {vx : Int32} (hx : x < 6) (hy : y < 6) (hn2 : n2 ≤ 10) (hk : k ≤ n2) (hc2 : M 151 y = nI n2) (h1x : M 148 x = vx) (hO : ∀ f, f < 6 → ∀ j, j < n2 → M (152 + f) (10 * y + j) = O f j) {fr : Bool}
    (k1 : ((10 * y) + k) < ((10 * y) + n2) → RT 111 (125, [.ref 134, .int (nI y), .int (nI x), .int (bI (if fr = true then (if (O 5 k) = 0 then (if (isW (O 0 k)) = true then (if (O 1 k) = vx then false else true) else true) else false) else false)), .int (nI (((10 * y) + k) + 1)), UU], [], M, κ) Q)
    (k2 : ¬ (((10 * y) + k) < ((10 * y) + n2)) → Q (.inl (some (.int (bI fr))), M, κ))
    : RT 111 (125, [.ref 134, .int (nI y), .int (nI x), .int (bI fr), .int (nI ((10 * y) + k)), UU], [], M, κ) Q := by
  refine w_load i_111_125 rfl rfl ?_
  refine w_push i_111_127 rfl ?_
  refine w_load i_111_129 rfl rfl ?_
  refine w_bin (w := (nI (10 * y))) i_111_130 rfl (nI_mul 10 y) ?_
  refine w_load i_111_131 rfl rfl ?_
  refine w_getR 151 i_111_132 hκ (⟨rfl, by decide⟩ : isOb 134 7) rfl rfl ?_
  refine w_load i_111_135 rfl rfl ?_
  refine w_ialdN (e := y) (v := (nI n2)) i_111_136 hκ (⟨rfl, rfl, by decide⟩ : isAr 151 6) (by omega) (by decide) (hc2) ?_
  refine w_bin (w := (nI ((10 * y) + n2))) i_111_137 rfl (nI_add (10 * y) n2) ?_
  refine w_if2n (((10 * y) + k) < ((10 * y) + n2)) i_111_138 (cN_ge (a := ((10 * y) + k)) (b := ((10 * y) + n2)) (by omega) (by omega)) ?_ ?_
  · intro h1
    refine w_load i_111_141 rfl rfl ?_
    have K2 : RT 111 (189, [.ref 134, .int (nI y), .int (nI x), .int (bI fr), .int (nI ((10 * y) + k)), UU], [.int (bI (if fr = true then (if (O 5 k) = 0 then (if (isW (O 0 k)) = true then (if (O 1 k) = vx then false else true) else true) else false) else false))], M, κ) Q := by
      refine w_store (l1 := [.ref 134, .int (nI y), .int (nI x), .int (bI (if fr = true then (if (O 5 k) = 0 then (if (isW (O 0 k)) = true then (if (O 1 k) = vx then false else true) else true) else false) else false)), .int (nI ((10 * y) + k)), UU]) i_111_189 rfl (Nat.le_of_ble_eq_true rfl) rfl ?_
      refine w_iincN (n := ((10 * y) + k)) (l1 := [.ref 134, .int (nI y), .int (nI x), .int (bI (if fr = true then (if (O 5 k) = 0 then (if (isW (O 0 k)) = true then (if (O 1 k) = vx then false else true) else true) else false) else false)), .int (nI (((10 * y) + k) + 1)), UU]) 1 i_111_190 rfl rfl ?_
      refine w_goto i_111_193 ?_
      exact (k1 h1)
    refine w_if0n (fr = true) i_111_142 cB_eq ?_ ?_
    · intro h3
      refine w_load i_111_145 rfl rfl ?_
      refine w_getR 157 i_111_146 hκ (⟨rfl, by decide⟩ : isOb 134 7) rfl rfl ?_
      refine w_load i_111_149 rfl rfl ?_
      refine w_ialdN (e := ((10 * y) + k)) (v := (O 5 k)) i_111_151 hκ (⟨rfl, rfl, by decide⟩ : isAr 157 60) (by omega) (by decide) (hO 5 (by decide) k (by omega)) ?_
      refine w_if0n ((O 5 k) = 0) i_111_152 cI0_ne ?_ ?_
      · intro h4
        refine w_load i_111_155 rfl rfl ?_
        refine w_getR 152 i_111_156 hκ (⟨rfl, by decide⟩ : isOb 134 7) rfl rfl ?_
        refine w_load i_111_159 rfl rfl ?_
        refine w_ialdN (e := ((10 * y) + k)) (v := (O 0 k)) i_111_161 hκ (⟨rfl, rfl, by decide⟩ : isAr 152 60) (by omega) (by decide) (hO 0 (by decide) k (by omega)) ?_
        refine w_callS i_111_162 ⟨by decide, by decide, by decide, rfl, rfl⟩ (av := [.int (O 0 k)]) (rest := []) rfl rfl (Nat.le_of_ble_eq_true rfl) (v := some (.int (bI (isW (O 0 k))))) (c105 hκ) ?_
        refine w_if0n ((isW (O 0 k)) = true) i_111_165 cB_eq ?_ ?_
        · intro h5
          refine w_load i_111_168 rfl rfl ?_
          refine w_getR 153 i_111_169 hκ (⟨rfl, by decide⟩ : isOb 134 7) rfl rfl ?_
          refine w_load i_111_172 rfl rfl ?_
          refine w_ialdN (e := ((10 * y) + k)) (v := (O 1 k)) i_111_174 hκ (⟨rfl, rfl, by decide⟩ : isAr 153 60) (by omega) (by decide) (hO 1 (by decide) k (by omega)) ?_
          refine w_load i_111_175 rfl rfl ?_
          refine w_getR 148 i_111_176 hκ (⟨rfl, by decide⟩ : isOb 134 7) rfl rfl ?_
          refine w_load i_111_179 rfl rfl ?_
          refine w_ialdN (e := x) (v := vx) i_111_180 hκ (⟨rfl, rfl, by decide⟩ : isAr 148 6) (by omega) (by decide) (h1x) ?_
          refine w_if2 ((O 1 k) = vx) i_111_181 cI_eq ?_ ?_
          · intro h6
            refine w_push i_111_188 rfl ?_
            exact (by first | exact (K2) | (have K9 := K2; simp only [↓if_pos h3, ↓if_pos h4, ↓if_pos h5, ↓if_pos h6] at K9 ⊢; exact (K9)))
          · intro h7
            refine w_push i_111_184 rfl ?_
            refine w_goto i_111_185 ?_
            exact (by first | exact (K2) | (have K9 := K2; simp only [↓if_pos h3, ↓if_pos h4, ↓if_pos h5, ↓if_neg h7] at K9 ⊢; exact (K9)))
        · intro h8
          refine w_push i_111_184 rfl ?_
          refine w_goto i_111_185 ?_
          exact (by first | exact (K2) | (have K9 := K2; simp only [↓if_pos h3, ↓if_pos h4, ↓if_neg h8] at K9 ⊢; exact (K9)))
      · intro h9
        refine w_push i_111_188 rfl ?_
        exact (by first | exact (K2) | (have K9 := K2; simp only [↓if_pos h3, ↓if_neg h9] at K9 ⊢; exact (K9)))
    · intro h10
      refine w_push i_111_188 rfl ?_
      exact (by first | exact (K2) | (have K9 := K2; simp only [↓if_neg h10] at K9 ⊢; exact (K9)))
  · intro h11
    refine w_load i_111_196 rfl rfl ?_
    exact w_iret i_111_197 (.inr ⟨rfl, isB_bI _⟩) (k2 h11)
variable {Q : Ou → Prop} {M M0 : Mem} {κ : Kp}
section GP
variable {v : Nat → Int32} {f : Nat → Nat} {nb : Nat} {s : Ss} {x y : Nat}
theorem c111 (hκ : Rd κ) (hnb6 : nb ≤ 6) (hnb : M 134 20 = nI nb) (hB : MRl v f nb M s) (hI : SIv v f nb s) (hx : x < nb) (hy : y < nb) : Run 111 (0, entL 111 [.ref 134, .int (nI y), .int (nI x)], [], M, κ) (.inl (some (.int (bI (mtk v f nb s x y)))), M, κ) := by
  have hY := hB y hy
  have hX := hB x hx
  have hIY := hI.1 y hy
  have hIX := hI.1 x hx
  have hvx : ¬ v x = -1 := fun z => by
    have := hIX.2.2.2.2.2.2.2
    rw [z, cm1] at this
    omega
  refine RT_run (S111_0 hκ (by omega) (by omega) ?_)
  have e0 : (if y = 0 then false else (if y = x then false else true)) = (!decide (y = 0) && !decide (y = x)) := by
    by_cases q : y = 0 <;> by_cases q2 : y = x <;> simp [q, q2]
  rw [e0]
  refine loopI (n := nb) (fun z fr => RT 111 (18, [.ref 134, .int (nI y), .int (nI x), .int (bI fr), .int (nI z), UU], [], M, κ) _) (fun z fr => fr = ((!decide (y = 0) && !decide (y = x)) && !anyN (fun z => !decide (z = x) && (!s.2.2.2.1 z && comF (s.1 z) (nI (s.2.1 z)) (nI (f z)) (nI y))) z)) (fun z fr hz hJ ih => ?_) (fun fr hJ => ?_) 0 _ (Nat.zero_le _) (by rw [anyN]; simp)
  · have hZ := hB z hz
    have hIZ := hI.1 z hz
    refine S111_18 hκ (by omega) (by omega) hnb6 (by omega) (fun _ => ⟨hIZ.2.2.1, hIZ.2.2.2.1⟩) hnb (fun _ => hZ.2.2.2.2.2.1) (fun _ => hZ.1) (fun _ => hZ.2.2.1) (fun _ => hZ.2.2.2.1) (fun _ => ih _ ?_) (fun c => absurd hz c)
    rw [hJ, anyN]
    have ec : comF (s.1 z) (nI (s.2.1 z)) (nI (f z)) (nI y) = (if goes (s.1 z) = true then (if s.2.1 z = y then true else if forks (s.1 z) = true then (if f z = y then true else false) else false) else if forks (s.1 z) = true then (if f z = y then true else false) else false) := by
      have h1 := comF_iff (e := s.1 z) (a := s.2.1 z) (b := f z) (c := y) (by have := hIZ.2.2.1; omega) (by have := hIZ.2.2.2.1; omega) (by omega)
      have hg : goes (s.1 z) = true ↔ ¬ s.1 z = 0 := by
        unfold goes
        by_cases q : s.1 z = 0 <;> simp [q]
      have hf : forks (s.1 z) = true ↔ s.1 z = 2 := by
        unfold forks
        by_cases q : s.1 z = 2 <;> simp [q]
      have key : ∀ (a b : Bool), (a = true ↔ b = true) → a = b := fun a b => by cases a <;> cases b <;> simp
      refine key _ _ (h1.trans ?_)
      by_cases q1 : s.1 z = 0
      · have q2 : ¬ s.1 z = 2 := by rw [q1]; decide
        rw [if_neg (fun c => hg.mp c q1), if_neg (fun c => q2 (hf.mp c))]
        simp [q1]
      · rw [if_pos (hg.mpr q1)]
        by_cases q2 : s.1 z = 2
        · rw [if_pos (hf.mpr q2)]
          by_cases q3 : s.2.1 z = y <;> by_cases q4 : f z = y <;> simp [q1, q2, q3, q4]
        · rw [if_neg (fun c => q2 (hf.mp c))]
          by_cases q3 : s.2.1 z = y <;> simp [q1, q2, q3]
    rw [← ec]
    generalize comF (s.1 z) (nI (s.2.1 z)) (nI (f z)) (nI y) = cf
    generalize anyN _ z = an
    generalize (!decide (y = 0) && !decide (y = x)) = bs
    by_cases q : z = x
    · cases s.2.2.2.1 z <;> cases bs <;> cases an <;> cases cf <;> simp [q, bI]
    · cases s.2.2.2.1 z <;> cases bs <;> cases an <;> cases cf <;> simp [q, bI]
  · refine S111_18 (s := s) (f := f) hκ (by omega) (by omega) hnb6 (Nat.le_refl _) (fun c => absurd c (Nat.lt_irrefl _)) hnb (fun c => absurd c (Nat.lt_irrefl _)) (fun c => absurd c (Nat.lt_irrefl _)) (fun c => absurd c (Nat.lt_irrefl _)) (fun c => absurd c (Nat.lt_irrefl _)) (fun c => absurd c (Nat.lt_irrefl _)) (fun _ => ?_)
    obtain ⟨b1, hb1⟩ : ∃ b1, b1 = ((!decide (y = 0) && !decide (y = x)) && !anyN (fun z => !decide (z = x) && (!s.2.2.2.1 z && comF (s.1 z) (nI (s.2.1 z)) (nI (f z)) (nI y))) nb) := ⟨_, rfl⟩
    rw [← hb1] at hJ
    rw [hJ]
    refine loopI (n := s.2.2.1 y) (fun k fr => RT 111 (125, [.ref 134, .int (nI y), .int (nI x), .int (bI fr), .int (nI ((10 * y) + k)), UU], [], M, κ) _) (fun k fr => fr = (b1 && (!anyN (fun k => decide (¬ s.2.2.2.2 y 5 k = 0)) k && !anyN (fun k => decide (wr (s.2.2.2.2 y) k = v x)) k))) (fun k fr hk hK ih => ?_) (fun fr hK => ?_) 0 _ (Nat.zero_le _) (by rw [anyN, anyN]; simp)
    · refine S111_125 hκ (by omega) (by omega) hIY.2.2.2.2.1 (by omega) hY.2.2.2.2.1 hX.2.1 hY.2.2.2.2.2.2 (fun _ => ih _ ?_) (fun c => absurd (by omega) c)
      rw [hK, anyN, anyN]
      have hw := ws_wr (c := s.2.2.2.2 y 0 k) (d := s.2.2.2.2 y 1 k) hvx
      have hw2 : (if isW (s.2.2.2.2 y 0 k) = true then (if s.2.2.2.2 y 1 k = v x then false else true) else true) = !decide (wr (s.2.2.2.2 y) k = v x) := by
        have e1 : wr (s.2.2.2.2 y) k = wrF (s.2.2.2.2 y 0 k) (s.2.2.2.2 y 1 k) := rfl
        rw [e1]
        unfold wsM at hw
        rw [decide_eq_true_iff] at hw
        unfold isW
        by_cases q1 : 7 < s.2.2.2.2 y 0 k
        · rw [if_pos q1, if_neg Bool.false_ne_true, decide_eq_false (fun c => (hw.mpr c).1 q1)]
          rfl
        · rw [if_neg q1, if_pos rfl]
          by_cases q2 : s.2.2.2.2 y 1 k = v x
          · rw [if_pos q2, decide_eq_true (hw.mp ⟨q1, q2⟩)]
            rfl
          · rw [if_neg q2, decide_eq_false (fun c => q2 (hw.mpr c).2)]
            rfl
      rw [hw2]
      generalize decide (wr (s.2.2.2.2 y) k = v x) = w1
      generalize anyN _ k = a1
      generalize anyN _ k = a2
      by_cases q : s.2.2.2.2 y 5 k = 0 <;> cases b1 <;> cases w1 <;> cases a1 <;> cases a2 <;> simp [q]
    · refine S111_125 hκ (by omega) (by omega) hIY.2.2.2.2.1 (Nat.le_refl _) hY.2.2.2.2.1 hX.2.1 hY.2.2.2.2.2.2 (fun c => absurd c (Nat.lt_irrefl _)) (fun _ => ?_)
      refine oi (congrArg bI ?_)
      rw [hK, hb1]
      unfold mtk
      generalize anyN (fun k => decide (¬ s.2.2.2.2 y 5 k = 0)) (s.2.2.1 y) = a1
      generalize anyN (fun k => decide (wr (s.2.2.2.2 y) k = v x)) (s.2.2.1 y) = a2
      generalize anyN _ nb = a3
      generalize decide (y = 0) = a4
      generalize decide (y = x) = a5
      cases a1 <;> cases a2 <;> cases a3 <;> cases a4 <;> cases a5 <;> rfl
theorem MRl_tk' {M' : Mem} {g : Int32} (hI : ∀ z, z < nb → s.2.2.1 z ≤ 10) (hB : MRl v f nb M s) (hx : x < nb) (hy : y < nb) (hyx : ¬ y = x) (hn : s.2.2.1 x + s.2.2.1 y ≤ 10) (h1 : ∀ o j, ¬ (o = 151 ∧ j = x) → ¬ (o = 146 ∧ j = y) → ¬ (152 ≤ o ∧ o ≤ 157 ∧ 10 * x + s.2.2.1 x ≤ j ∧ j < 10 * x + (s.2.2.1 x + s.2.2.1 y)) → M' o j = M o j) (h2 : M' 151 x = nI (s.2.2.1 x + s.2.2.1 y)) (h3 : M' 146 y = 1) (h4 : ∀ q, q < 6 → ∀ j, j < s.2.2.1 y → M' (152 + q) (10 * x + (s.2.2.1 x + j)) = if q = 5 then g else M (152 + q) (10 * y + j)) : MRl v f nb M' (tkS s x y g) := by
  intro z hz
  obtain ⟨b0, b1, b2, b3, b4, b5, b6⟩ := hB z hz
  have hY := (hB y hy).2.2.2.2.2.2
  have hZc := hI z hz
  refine ⟨(h1 _ _ (by omega) (by omega) (by omega)).trans b0, (h1 _ _ (by omega) (by omega) (by omega)).trans b1, (h1 _ _ (by omega) (by omega) (by omega)).trans b2, (h1 _ _ (by omega) (by omega) (by omega)).trans b3, ?_, ?_, fun q hq j hj => ?_⟩
  · show M' 151 z = nI (us s.2.2.1 x (s.2.2.1 x + s.2.2.1 y) z)
    by_cases e : z = x
    · rw [e, us_s]
      exact h2
    · rw [us_o e]
      exact (h1 _ _ (by omega) (by omega) (by omega)).trans b4
  · show M' 146 z = bI (us s.2.2.2.1 y true z)
    by_cases e : z = y
    · rw [e, us_s]
      exact h3
    · rw [us_o e]
      exact (h1 _ _ (by omega) (by omega) (by omega)).trans b5
  · have hj' : j < us s.2.2.1 x (s.2.2.1 x + s.2.2.1 y) z := hj
    show M' (152 + q) (10 * z + j) = us s.2.2.2.2 x (apO (s.2.2.2.2 x) (s.2.2.1 x) (s.2.2.2.2 y) g) z q j
    by_cases e : z = x
    · rw [e] at b6 hj' ⊢
      rw [us_s] at hj' ⊢
      unfold apO
      by_cases e2 : j < s.2.2.1 x
      · rw [if_pos e2, h1 _ _ (by omega) (by omega) (by omega)]
        exact b6 q hq j e2
      · rw [if_neg e2]
        have := h4 q hq (j - s.2.2.1 x) (by omega)
        rw [Nat.add_sub_cancel' (by omega)] at this
        rw [this]
        by_cases e3 : q = 5
        · rw [if_pos e3, if_pos e3]
        · rw [if_neg e3, if_neg e3]
          exact hY q hq _ (by omega)
    · rw [us_o e] at hj' ⊢
      rw [h1 _ _ (by omega) (by omega) (by omega)]
      exact b6 q hq j hj'
theorem MRl_tk {M' : Mem} {g : Int32} (hI : SIv v f nb s) (hB : MRl v f nb M s) (hx : x < nb) (hy : y < nb) (hyx : ¬ y = x) (hn : s.2.2.1 x + s.2.2.1 y ≤ 10) (h1 : ∀ o j, ¬ (o = 151 ∧ j = x) → ¬ (o = 146 ∧ j = y) → ¬ (152 ≤ o ∧ o ≤ 157 ∧ 10 * x + s.2.2.1 x ≤ j ∧ j < 10 * x + (s.2.2.1 x + s.2.2.1 y)) → M' o j = M o j) (h2 : M' 151 x = nI (s.2.2.1 x + s.2.2.1 y)) (h3 : M' 146 y = 1) (h4 : ∀ q, q < 6 → ∀ j, j < s.2.2.1 y → M' (152 + q) (10 * x + (s.2.2.1 x + j)) = if q = 5 then g else M (152 + q) (10 * y + j)) : MRl v f nb M' (tkS s x y g) := MRl_tk' (fun z hz => (hI.1 z hz).2.2.2.2.1) hB hx hy hyx hn h1 h2 h3 h4
theorem MRl_jm {w : Nat} (hB : MRl v f nb M s) : MRl v f nb (stM (stM M 147 x 1) 149 x (nI w)) (jmS s x w) := by
  intro z hz
  obtain ⟨b0, b1, b2, b3, b4, b5, b6⟩ := hB z hz
  refine ⟨?_, ?_, ?_, ?_, ?_, ?_, fun q hq j hj => ?_⟩
  · show _ = us s.1 x 1 z
    rw [stM_n (by omega)]
    by_cases e : z = x
    · rw [e, us_s, stM_s]
    · rw [us_o e, stM_n (by omega)]
      exact b0
  · rw [stM_n (by omega), stM_n (by omega)]
    exact b1
  · show _ = nI (us s.2.1 x w z)
    by_cases e : z = x
    · rw [e, us_s, stM_s]
    · rw [us_o e, stM_n (by omega), stM_n (by omega)]
      exact b2
  · rw [stM_n (by omega), stM_n (by omega)]
    exact b3
  · rw [stM_n (by omega), stM_n (by omega)]
    exact b4
  · rw [stM_n (by omega), stM_n (by omega)]
    exact b5
  · rw [stM_n (by omega), stM_n (by omega)]
    exact b6 q hq j hj
def frM (M0 M : Mem) : Prop := ∀ o j, (o < 146 ∨ 157 < o) → M o j = M0 o j
theorem f112 (hκ : Rd κ) (hnb6 : nb ≤ 6) (hnb : M0 134 20 = nI nb) (hB : MRl v f nb M0 s) (hI : SIv v f nb s) (hx : x < nb)
    (K : ∀ M, frM M0 M → MRl v f nb M (gbS v f nb s x) → Q (.inl none, M, κ)) : RT 112 (0, entL 112 [.ref 134, .int (nI x)], [], M0, κ) Q := by
  have hX := hI.1 x hx
  have bX := hB x hx
  refine S112_0 hκ (by omega) hX.2.2.1 hX.2.2.2.1 bX.2.2.2.2.2.1 bX.1 bX.2.2.1 bX.2.2.2.1 (fun h => ?_) (fun hgx hex hne => ?_)
  · have := K M0 (fun _ _ _ => rfl)
    unfold gbS at this
    rw [if_pos (by
      rcases h with h | h | h
      · exact .inl h
      · exact .inr (.inr h.2.2)
      · exact .inr (.inl h.2))] at this
    exact this hB
  · unfold gbS at K
    rw [if_neg (by
      rintro (c | c | c)
      · exact hgx c
      · exact c hex
      · exact hne c)] at K
    have ht : s.2.1 x < nb := hX.1 (by rw [hex]; decide)
    have hu : f x < nb := hX.2.1 hex
    have hT := hI.1 _ ht
    have hU := hI.1 _ hu
    have bT := hB _ ht
    have bU := hB _ hu
    refine S112_49 hκ (by omega) (by omega) (by omega) bT.1 bU.1 (c111 hκ hnb6 hnb hB hI hx ht) (c111 hκ hnb6 hnb hB hI hx hu) ?_
    have ej : ∀ e : Int32, ((if e = 1 then true else false) = true) ↔ e = 1 := fun e => by
      by_cases q : e = 1 <;> simp [q]
    have ety : ∀ y, tky v f nb s x y = true ↔ (s.1 y = 1 ∧ mtk v f nb s x y = true) := fun y => by
      unfold tky
      by_cases q : s.1 y = 1 <;> simp [q]
    have tkne : ∀ y, tky v f nb s x y = true → ¬ y = x := fun y h => (mtk_iff.mp ((ety y).mp h).2).2.1
    unfold gbB at K
    have fz : ∀ {M1 : Mem} {y : Nat}, (∀ o j, ¬ (o = 151 ∧ j = x) → ¬ (o = 146 ∧ j = y) → ¬ (152 ≤ o ∧ o ≤ 157 ∧ 10 * x + s.2.2.1 x ≤ j ∧ j < 10 * x + (s.2.2.1 x + s.2.2.1 y)) → M1 o j = M0 o j) → frM M0 M1 := fun h o j hno => h o j (by omega) (by omega) (by omega)
    have fj : ∀ {M1 : Mem} {w : Nat}, frM M0 M1 → frM M0 (stM (stM M1 147 x 1) 149 x (nI w)) := fun h o j hno => by
      rw [stM_n (by omega), stM_n (by omega)]
      exact h o j hno
    have third : (¬ (tky v f nb s x (s.2.1 x) = true ∧ tky v f nb s x (f x) = true ∧ s.2.1 (s.2.1 x) = s.2.1 (f x) ∧ s.2.2.1 x + s.2.2.1 (s.2.1 x) + s.2.2.1 (f x) ≤ 10)) → (¬ (tky v f nb s x (s.2.1 x) = true ∧ s.2.1 (s.2.1 x) = f x ∧ s.2.2.1 x + s.2.2.1 (s.2.1 x) ≤ 10)) → RT 112 (262, [.ref 134, .int (nI x), .int (nI (s.2.1 x)), .int (nI (f x)), UU, .int (bI (mtk v f nb s x (f x))), UU, .int (bI (if s.1 (f x) = 1 then true else false))], [], M0, κ) Q := by
      intro q1 q2
      rw [if_neg q1, if_neg q2] at K
      refine S112_262 hκ (by omega) (by omega) (by omega) hX.2.2.2.2.1 hT.2.2.2.2.1 hU.2.2.2.2.1 (by have := hT.2.2.1; omega) (by have := hU.2.2.1; omega) bX.2.1 bT.2.2.1 bU.2.2.1 bX.2.2.2.2.1 bT.2.2.2.2.1 bU.2.2.2.2.1 (fun h => ?_) (fun a1 a2 a3 a4 => ?_)
      · rw [if_neg (by
          rintro ⟨c1, c2, c3⟩
          have c4 := (ety _).mp c1
          rcases h with h | h | h | h
          · omega
          · exact h.2.2 c4.2
          · exact h.2 c2
          · exact h ((ej _).mpr c4.1))] at K
        exact K M0 (fun _ _ _ => rfl) hB
      · have a5 : tky v f nb s x (f x) = true := (ety _).mpr ⟨(ej _).mp a1, a3⟩
        rw [if_pos ⟨a5, a2, by omega⟩] at K
        refine f113 hκ (by omega) (by omega) (fun c => tkne _ a5 c.symm) (by omega) bX.2.2.2.2.1 bU.2.2.2.2.1 (fun M1 k1 k2 k3 k4 => ⟨none, M1, κ, rfl, ?_⟩)
        have hB1 := MRl_tk hI hB hx hu (tkne _ a5) (by omega) k1 k2 k3 k4
        refine w_weak (lle_s (lle_s (lle_s (lle_u (lle_u (lle_u (lle_u (lle_u lle_n)))))))) (S112_314 hκ (by omega) (by omega) (S114_0 hκ (by omega) ⟨none, _, κ, rfl, ?_⟩))
        exact w_weak (lle_u (lle_u (lle_u (lle_u (lle_u (lle_u (lle_u (lle_u lle_n)))))))) (S112_320 hκ (K _ (fj (fz k1)) (MRl_jm hB1)))
    have second : (¬ (tky v f nb s x (s.2.1 x) = true ∧ tky v f nb s x (f x) = true ∧ s.2.1 (s.2.1 x) = s.2.1 (f x) ∧ s.2.2.1 x + s.2.2.1 (s.2.1 x) + s.2.2.1 (f x) ≤ 10)) → RT 112 (201, [.ref 134, .int (nI x), .int (nI (s.2.1 x)), .int (nI (f x)), .int (bI (mtk v f nb s x (s.2.1 x))), .int (bI (mtk v f nb s x (f x))), .int (bI (if s.1 (s.2.1 x) = 1 then true else false)), .int (bI (if s.1 (f x) = 1 then true else false))], [], M0, κ) Q := by
      intro q1
      refine S112_201 hκ (by omega) (by omega) (by omega) hX.2.2.2.2.1 hT.2.2.2.2.1 hU.2.2.2.2.1 (by have := hT.2.2.1; omega) (by have := hU.2.2.1; omega) bX.2.1 bT.2.2.1 bU.2.2.1 bX.2.2.2.2.1 bT.2.2.2.2.1 bU.2.2.2.2.1 (fun a1 a2 a3 a4 => third q1 (fun c => by omega)) (fun a1 a2 a3 a4 => ?_) (fun a1 a2 a3 => third q1 (fun c => a3 ((ety _).mp c.1).2)) (fun a1 a2 => third q1 (fun c => a2 c.2.1)) (fun a1 => third q1 (fun c => a1 ((ej _).mpr ((ety _).mp c.1).1)))
      have a5 : tky v f nb s x (s.2.1 x) = true := (ety _).mpr ⟨(ej _).mp a1, a3⟩
      rw [if_neg q1, if_pos ⟨a5, a2, by omega⟩] at K
      refine f113 hκ (by omega) (by omega) (fun c => tkne _ a5 c.symm) (by omega) bX.2.2.2.2.1 bT.2.2.2.2.1 (fun M1 k1 k2 k3 k4 => ⟨none, M1, κ, rfl, ?_⟩)
      have hB1 := MRl_tk hI hB hx ht (tkne _ a5) (by omega) k1 k2 k3 k4
      refine w_weak (lle_s (lle_s (lle_u (lle_s (lle_u (lle_u (lle_u (lle_u lle_n)))))))) (S112_253 hκ (by omega) (by omega) (S114_0 hκ (by omega) ⟨none, _, κ, rfl, ?_⟩))
      exact w_weak (lle_u (lle_u (lle_u (lle_u (lle_u (lle_u (lle_u (lle_u lle_n)))))))) (S112_259 hκ (K _ (fj (fz k1)) (MRl_jm hB1)))
    refine S112_99 hκ (by omega) (by omega) (by omega) hX.2.2.2.2.1 hT.2.2.2.2.1 hU.2.2.2.2.1 (by have := hT.2.2.1; omega) (by have := hU.2.2.1; omega) bX.2.1 bT.2.2.1 bU.2.2.1 bX.2.2.2.2.1 bT.2.2.2.2.1 bU.2.2.2.2.1 (fun a1 a2 a3 a4 a5 a6 => second (fun c => by omega)) (fun a1 a2 a3 a4 a5 a6 => ?_) (fun a1 a2 a3 a4 a5 => second (fun c => a5 ((ety _).mp c.2.1).2)) (fun a1 a2 a3 a4 => second (fun c => a4 ((ety _).mp c.1).2)) (fun a1 a2 a3 => second (fun c => a3 c.2.2.1)) (fun a1 a2 => second (fun c => a2 ((ej _).mpr ((ety _).mp c.2.1).1))) (fun a1 => second (fun c => a1 ((ej _).mpr ((ety _).mp c.1).1)))
    have b1 : tky v f nb s x (s.2.1 x) = true := (ety _).mpr ⟨(ej _).mp a1, a4⟩
    have b2 : tky v f nb s x (f x) = true := (ety _).mpr ⟨(ej _).mp a2, a5⟩
    rw [if_pos ⟨b1, b2, a3, by omega⟩] at K
    have nT := tkne _ b1
    have nU := tkne _ b2
    refine f113 hκ (by omega) (by omega) (fun c => nT c.symm) (by omega) bX.2.2.2.2.1 bT.2.2.2.2.1 (fun M1 k1 k2 k3 k4 => ⟨none, M1, κ, rfl, ?_⟩)
    have hB1 := MRl_tk hI hB hx ht nT (by omega) k1 k2 k3 k4
    have bX1 := hB1 x hx
    have bU1 := hB1 _ hu
    refine w_weak (lle_s (lle_s (lle_s (lle_s (lle_u (lle_u (lle_u (lle_u lle_n)))))))) (S112_173 hκ (by omega) (by omega) (by omega) bX1.2.1 ?_)
    have ecx : (tkS s x (s.2.1 x) (1 + v x)).2.2.1 x = s.2.2.1 x + s.2.2.1 (s.2.1 x) := us_s
    have ecu : (tkS s x (s.2.1 x) (1 + v x)).2.2.1 (f x) = s.2.2.1 (f x) := us_o nU
    refine f113 (n := (tkS s x (s.2.1 x) (1 + v x)).2.2.1 x) (n2 := (tkS s x (s.2.1 x) (1 + v x)).2.2.1 (f x)) hκ (by omega) (by omega) (fun c => nU c.symm) (by rw [ecx, ecu]; omega) bX1.2.2.2.2.1 bU1.2.2.2.2.1 (fun M2 j1 j2 j3 j4 => ⟨none, M2, κ, rfl, ?_⟩)
    have hB2 : MRl v f nb M2 (tkS (tkS s x (s.2.1 x) (1 + v x)) x (f x) (-1 - v x)) := by
      intro z hz
      have hIc : ∀ z, z < nb → (tkS s x (s.2.1 x) (1 + v x)).2.2.1 z ≤ 10 := fun z hz => by
        by_cases e : z = x
        · rw [e, ecx]; omega
        · rw [show (tkS s x (s.2.1 x) (1 + v x)).2.2.1 z = s.2.2.1 z from us_o e]
          exact (hI.1 z hz).2.2.2.2.1
      exact MRl_tk' hIc hB1 hx hu nU (by rw [ecx, ecu]; omega) j1 j2 j3 j4 z hz
    have bT2 := hB2 _ ht
    refine w_weak (lle_s (lle_s (lle_s (lle_u (lle_u (lle_u (lle_u (lle_u lle_n)))))))) (S112_187 hκ (by omega) (by omega) bT2.2.2.1 (S114_0 hκ (by omega) ⟨none, _, κ, rfl, ?_⟩))
    exact w_weak (lle_u (lle_u (lle_u (lle_u (lle_u (lle_u (lle_u (lle_u lle_n)))))))) (S112_198 hκ (K _ (fj (fun o j hno => (j1 o j (by omega) (by omega) (by omega)).trans (fz k1 o j hno))) (MRl_jm hB2)))
end GP
end P_44_guard2
