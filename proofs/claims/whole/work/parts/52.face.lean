/-! FACES of the class, walked -/
section P_52_face
theorem i_65_0 : ins 65 0 = some (.iconst 1, 1, 0, 0, 0, 1) := rfl
theorem i_65_1 : ins 65 1 = some (.iload_n 1, 2, 1, 0, 0, 0) := rfl
theorem i_65_2 : ins 65 2 = some (.iconst 4, 3, 0, 0, 0, 4) := rfl
theorem i_65_3 : ins 65 3 = some (.invokestatic 65, 6, 81, 1, 3, 0) := rfl
theorem i_65_6 : ins 65 6 = some (.ifCond .eq 16, 9, 22, 0, 0, 0) := rfl
theorem i_65_9 : ins 65 9 = some (.iconst 1, 10, 0, 0, 0, 1) := rfl
theorem i_65_10 : ins 65 10 = some (.iload_n 2, 11, 2, 0, 0, 0) := rfl
theorem i_65_11 : ins 65 11 = some (.iconst 2, 12, 0, 0, 0, 2) := rfl
theorem i_65_12 : ins 65 12 = some (.invokestatic 65, 15, 81, 1, 3, 0) := rfl
theorem i_65_15 : ins 65 15 = some (.ifCond .eq 7, 18, 22, 0, 0, 0) := rfl
theorem i_65_18 : ins 65 18 = some (.iconst 1, 19, 0, 0, 0, 1) := rfl
theorem i_65_19 : ins 65 19 = some (.goto 4, 22, 23, 0, 0, 0) := rfl
theorem i_65_22 : ins 65 22 = some (.iconst 0, 23, 0, 0, 0, 0) := rfl
theorem i_65_23 : ins 65 23 = some (.istore 7, 25, 7, 0, 0, 0) := rfl
theorem i_65_25 : ins 65 25 = some (.iconst 1, 26, 0, 0, 0, 1) := rfl
theorem i_65_26 : ins 65 26 = some (.iload_n 3, 27, 3, 0, 0, 0) := rfl
theorem i_65_27 : ins 65 27 = some (.bipush 8, 29, 0, 0, 0, 8) := rfl
theorem i_65_29 : ins 65 29 = some (.invokestatic 65, 32, 81, 1, 3, 0) := rfl
theorem i_65_32 : ins 65 32 = some (.ifCond .eq 40, 35, 72, 0, 0, 0) := rfl
theorem i_65_35 : ins 65 35 = some (.iconst 1, 36, 0, 0, 0, 1) := rfl
theorem i_65_36 : ins 65 36 = some (.iload 4, 38, 4, 0, 0, 0) := rfl
theorem i_65_38 : ins 65 38 = some (.bipush 8, 40, 0, 0, 0, 8) := rfl
theorem i_65_40 : ins 65 40 = some (.invokestatic 65, 43, 81, 1, 3, 0) := rfl
theorem i_65_43 : ins 65 43 = some (.ifCond .eq 29, 46, 72, 0, 0, 0) := rfl
theorem i_65_46 : ins 65 46 = some (.iconst 1, 47, 0, 0, 0, 1) := rfl
theorem i_65_47 : ins 65 47 = some (.iload 5, 49, 5, 0, 0, 0) := rfl
theorem i_65_49 : ins 65 49 = some (.bipush 8, 51, 0, 0, 0, 8) := rfl
theorem i_65_51 : ins 65 51 = some (.invokestatic 65, 54, 81, 1, 3, 0) := rfl
theorem i_65_54 : ins 65 54 = some (.ifCond .eq 18, 57, 72, 0, 0, 0) := rfl
theorem i_65_57 : ins 65 57 = some (.iconst 1, 58, 0, 0, 0, 1) := rfl
theorem i_65_58 : ins 65 58 = some (.iload 6, 60, 6, 0, 0, 0) := rfl
theorem i_65_60 : ins 65 60 = some (.bipush 8, 62, 0, 0, 0, 8) := rfl
theorem i_65_62 : ins 65 62 = some (.invokestatic 65, 65, 81, 1, 3, 0) := rfl
theorem i_65_65 : ins 65 65 = some (.ifCond .eq 7, 68, 72, 0, 0, 0) := rfl
theorem i_65_68 : ins 65 68 = some (.iconst 1, 69, 0, 0, 0, 1) := rfl
theorem i_65_69 : ins 65 69 = some (.goto 4, 72, 73, 0, 0, 0) := rfl
theorem i_65_72 : ins 65 72 = some (.iconst 0, 73, 0, 0, 0, 0) := rfl
theorem i_65_73 : ins 65 73 = some (.istore 8, 75, 8, 0, 0, 0) := rfl
theorem i_65_75 : ins 65 75 = some (.iload 7, 77, 7, 0, 0, 0) := rfl
theorem i_65_77 : ins 65 77 = some (.ifCond .eq 8, 80, 85, 0, 0, 0) := rfl
theorem i_65_80 : ins 65 80 = some (.iload 8, 82, 8, 0, 0, 0) := rfl
theorem i_65_82 : ins 65 82 = some (.ifCond .ne 11, 85, 93, 0, 0, 0) := rfl
theorem i_65_85 : ins 65 85 = some (.new 69, 88, 0, 1, 0, 0) := rfl
theorem i_65_93 : ins 65 93 = some (.aload_n 0, 94, 0, 0, 0, 0) := rfl
theorem i_65_94 : ins 65 94 = some (.getfield 10, 97, 6, 0, 0, 0) := rfl
theorem i_65_97 : ins 65 97 = some (.iload_n 1, 98, 1, 0, 0, 0) := rfl
theorem i_65_98 : ins 65 98 = some (.putfield 72, 101, 2, 0, 0, 0) := rfl
theorem i_65_101 : ins 65 101 = some (.aload_n 0, 102, 0, 0, 0, 0) := rfl
theorem i_65_102 : ins 65 102 = some (.getfield 10, 105, 6, 0, 0, 0) := rfl
theorem i_65_105 : ins 65 105 = some (.iload_n 2, 106, 2, 0, 0, 0) := rfl
theorem i_65_106 : ins 65 106 = some (.putfield 75, 109, 2, 1, 0, 0) := rfl
theorem i_65_109 : ins 65 109 = some (.aload_n 0, 110, 0, 0, 0, 0) := rfl
theorem i_65_110 : ins 65 110 = some (.getfield 10, 113, 6, 0, 0, 0) := rfl
theorem i_65_113 : ins 65 113 = some (.iload_n 3, 114, 3, 0, 0, 0) := rfl
theorem i_65_114 : ins 65 114 = some (.putfield 78, 117, 2, 2, 0, 0) := rfl
theorem i_65_117 : ins 65 117 = some (.aload_n 0, 118, 0, 0, 0, 0) := rfl
theorem i_65_118 : ins 65 118 = some (.getfield 10, 121, 6, 0, 0, 0) := rfl
theorem i_65_121 : ins 65 121 = some (.iload 4, 123, 4, 0, 0, 0) := rfl
theorem i_65_123 : ins 65 123 = some (.putfield 81, 126, 2, 3, 0, 0) := rfl
theorem i_65_126 : ins 65 126 = some (.aload_n 0, 127, 0, 0, 0, 0) := rfl
theorem i_65_127 : ins 65 127 = some (.getfield 10, 130, 6, 0, 0, 0) := rfl
theorem i_65_130 : ins 65 130 = some (.iload 5, 132, 5, 0, 0, 0) := rfl
theorem i_65_132 : ins 65 132 = some (.putfield 84, 135, 2, 4, 0, 0) := rfl
theorem i_65_135 : ins 65 135 = some (.aload_n 0, 136, 0, 0, 0, 0) := rfl
theorem i_65_136 : ins 65 136 = some (.getfield 10, 139, 6, 0, 0, 0) := rfl
theorem i_65_139 : ins 65 139 = some (.iload 6, 141, 6, 0, 0, 0) := rfl
theorem i_65_141 : ins 65 141 = some (.putfield 87, 144, 2, 5, 0, 0) := rfl
theorem i_65_144 : ins 65 144 = some (.aload_n 0, 145, 0, 0, 0, 0) := rfl
theorem i_65_145 : ins 65 145 = some (.iconst 0, 146, 0, 0, 0, 0) := rfl
theorem i_65_146 : ins 65 146 = some (.putfield 51, 149, 6, 7, 0, 0) := rfl
theorem i_65_149 : ins 65 149 = some (.return_, 150, 0, 0, 0, 0) := rfl
theorem S65_0 {Q : Ou → Prop} {M : Mem} {κ : Kp} (hκ : Rd κ)  {p0 : Int32} {p1 : Int32} {p2 : Int32} {p3 : Int32} {p4 : Int32} {p5 : Int32}
    (k1 : ((((if (inR 1 p0 4) = true then (if (inR 1 p1 2) = true then true else false) else false) = true) ∧ (¬ ((if (inR 1 p2 8) = true then (if (inR 1 p3 8) = true then (if (inR 1 p4 8) = true then (if (inR 1 p5 8) = true then true else false) else false) else false) else false) = true))) ∨ (¬ ((if (inR 1 p0 4) = true then (if (inR 1 p1 2) = true then true else false) else false) = true))) → Q (.inr 0, M, (κ.1, κ.2.1, κ.2.2.1, kN κ, kC κ + 1, kU κ + 6)))
    (k2 : (if (inR 1 p0 4) = true then (if (inR 1 p1 2) = true then true else false) else false) = true → (if (inR 1 p2 8) = true then (if (inR 1 p3 8) = true then (if (inR 1 p4 8) = true then (if (inR 1 p5 8) = true then true else false) else false) else false) else false) = true → Q (.inl none, (stM (stM (stM (stM (stM (stM (stM M 1 0 p0) 1 1 p1) 1 2 p2) 1 3 p3) 1 4 p4) 1 5 p5) 0 7 0), κ))
    : RT 65 (0, [.ref 0, .int p0, .int p1, .int p2, .int p3, .int p4, .int p5, UU, UU], [], M, κ) Q := by
  refine w_push i_65_0 rfl ?_
  refine w_load i_65_1 rfl rfl ?_
  refine w_push i_65_2 rfl ?_
  refine w_callS i_65_3 ⟨by decide, by decide, by decide, rfl, rfl⟩ (av := [.int 1, .int p0, .int 4]) (rest := []) rfl rfl (Nat.le_of_ble_eq_true rfl) (v := some (.int (bI (inR 1 p0 4)))) (c81 hκ) ?_
  have K1 : RT 65 (23, [.ref 0, .int p0, .int p1, .int p2, .int p3, .int p4, .int p5, UU, UU], [.int (bI (if (inR 1 p0 4) = true then (if (inR 1 p1 2) = true then true else false) else false))], M, κ) Q := by
    refine w_store (l1 := [.ref 0, .int p0, .int p1, .int p2, .int p3, .int p4, .int p5, .int (bI (if (inR 1 p0 4) = true then (if (inR 1 p1 2) = true then true else false) else false)), UU]) i_65_23 rfl (Nat.le_of_ble_eq_true rfl) rfl ?_
    refine w_push i_65_25 rfl ?_
    refine w_load i_65_26 rfl rfl ?_
    refine w_push i_65_27 rfl ?_
    refine w_callS i_65_29 ⟨by decide, by decide, by decide, rfl, rfl⟩ (av := [.int 1, .int p2, .int 8]) (rest := []) rfl rfl (Nat.le_of_ble_eq_true rfl) (v := some (.int (bI (inR 1 p2 8)))) (c81 hκ) ?_
    have K2 : RT 65 (73, [.ref 0, .int p0, .int p1, .int p2, .int p3, .int p4, .int p5, .int (bI (if (inR 1 p0 4) = true then (if (inR 1 p1 2) = true then true else false) else false)), UU], [.int (bI (if (inR 1 p2 8) = true then (if (inR 1 p3 8) = true then (if (inR 1 p4 8) = true then (if (inR 1 p5 8) = true then true else false) else false) else false) else false))], M, κ) Q := by
      refine w_store (l1 := [.ref 0, .int p0, .int p1, .int p2, .int p3, .int p4, .int p5, .int (bI (if (inR 1 p0 4) = true then (if (inR 1 p1 2) = true then true else false) else false)), .int (bI (if (inR 1 p2 8) = true then (if (inR 1 p3 8) = true then (if (inR 1 p4 8) = true then (if (inR 1 p5 8) = true then true else false) else false) else false) else false))]) i_65_73 rfl (Nat.le_of_ble_eq_true rfl) rfl ?_
      refine w_load i_65_75 rfl rfl ?_
      have K3 : ((((if (inR 1 p0 4) = true then (if (inR 1 p1 2) = true then true else false) else false) = true) ∧ (¬ ((if (inR 1 p2 8) = true then (if (inR 1 p3 8) = true then (if (inR 1 p4 8) = true then (if (inR 1 p5 8) = true then true else false) else false) else false) else false) = true))) ∨ (¬ ((if (inR 1 p0 4) = true then (if (inR 1 p1 2) = true then true else false) else false) = true))) → RT 65 (85, [.ref 0, .int p0, .int p1, .int p2, .int p3, .int p4, .int p5, .int (bI (if (inR 1 p0 4) = true then (if (inR 1 p1 2) = true then true else false) else false)), .int (bI (if (inR 1 p2 8) = true then (if (inR 1 p3 8) = true then (if (inR 1 p4 8) = true then (if (inR 1 p5 8) = true then true else false) else false) else false) else false))], [], M, κ) Q := by
        intro h4
        exact w_throw i_65_85 rfl hκ (by decide) rfl (Nat.le_of_ble_eq_true rfl) (k1 h4)
      refine w_if0n ((if (inR 1 p0 4) = true then (if (inR 1 p1 2) = true then true else false) else false) = true) i_65_77 cB_eq ?_ ?_
      · intro h5
        refine w_load i_65_80 rfl rfl ?_
        refine w_if0 ((if (inR 1 p2 8) = true then (if (inR 1 p3 8) = true then (if (inR 1 p4 8) = true then (if (inR 1 p5 8) = true then true else false) else false) else false) else false) = true) i_65_82 cB_ne ?_ ?_
        · intro h6
          refine w_load i_65_93 rfl rfl ?_
          refine w_getR 1 i_65_94 hκ (⟨rfl, by decide⟩ : isOb 0 6) rfl rfl ?_
          refine w_load i_65_97 rfl rfl ?_
          refine w_putI i_65_98 hκ (⟨rfl, by decide⟩ : isOb 1 2) rfl (fun c => absurd c (by decide)) ?_
          refine w_load i_65_101 rfl rfl ?_
          refine w_getR 1 i_65_102 hκ (⟨rfl, by decide⟩ : isOb 0 6) rfl rfl ?_
          refine w_load i_65_105 rfl rfl ?_
          refine w_putI i_65_106 hκ (⟨rfl, by decide⟩ : isOb 1 2) rfl (fun c => absurd c (by decide)) ?_
          refine w_load i_65_109 rfl rfl ?_
          refine w_getR 1 i_65_110 hκ (⟨rfl, by decide⟩ : isOb 0 6) rfl rfl ?_
          refine w_load i_65_113 rfl rfl ?_
          refine w_putI i_65_114 hκ (⟨rfl, by decide⟩ : isOb 1 2) rfl (fun c => absurd c (by decide)) ?_
          refine w_load i_65_117 rfl rfl ?_
          refine w_getR 1 i_65_118 hκ (⟨rfl, by decide⟩ : isOb 0 6) rfl rfl ?_
          refine w_load i_65_121 rfl rfl ?_
          refine w_putI i_65_123 hκ (⟨rfl, by decide⟩ : isOb 1 2) rfl (fun c => absurd c (by decide)) ?_
          refine w_load i_65_126 rfl rfl ?_
          refine w_getR 1 i_65_127 hκ (⟨rfl, by decide⟩ : isOb 0 6) rfl rfl ?_
          refine w_load i_65_130 rfl rfl ?_
          refine w_putI i_65_132 hκ (⟨rfl, by decide⟩ : isOb 1 2) rfl (fun c => absurd c (by decide)) ?_
          refine w_load i_65_135 rfl rfl ?_
          refine w_getR 1 i_65_136 hκ (⟨rfl, by decide⟩ : isOb 0 6) rfl rfl ?_
          refine w_load i_65_139 rfl rfl ?_
          refine w_putI i_65_141 hκ (⟨rfl, by decide⟩ : isOb 1 2) rfl (fun c => absurd c (by decide)) ?_
          refine w_load i_65_144 rfl rfl ?_
          refine w_push i_65_145 rfl ?_
          refine w_putI i_65_146 hκ (⟨rfl, by decide⟩ : isOb 0 6) rfl (fun _ => rfl) ?_
          exact w_vret i_65_149 rfl (k2 h5 h6)
        · intro h7
          exact (by first | exact (K3 (.inl ⟨h5, h7⟩)) | (have K9 := K3 (.inl ⟨h5, h7⟩); simp only [↓if_pos h5, ↓if_neg h7] at K9 ⊢; exact (K9)))
      · intro h8
        exact (by first | exact (K3 (.inr h8)) | (have K9 := K3 (.inr h8); simp only [↓if_neg h8] at K9 ⊢; exact (K9)))
    refine w_if0n ((inR 1 p2 8) = true) i_65_32 cB_eq ?_ ?_
    · intro h9
      refine w_push i_65_35 rfl ?_
      refine w_load i_65_36 rfl rfl ?_
      refine w_push i_65_38 rfl ?_
      refine w_callS i_65_40 ⟨by decide, by decide, by decide, rfl, rfl⟩ (av := [.int 1, .int p3, .int 8]) (rest := []) rfl rfl (Nat.le_of_ble_eq_true rfl) (v := some (.int (bI (inR 1 p3 8)))) (c81 hκ) ?_
      refine w_if0n ((inR 1 p3 8) = true) i_65_43 cB_eq ?_ ?_
      · intro h10
        refine w_push i_65_46 rfl ?_
        refine w_load i_65_47 rfl rfl ?_
        refine w_push i_65_49 rfl ?_
        refine w_callS i_65_51 ⟨by decide, by decide, by decide, rfl, rfl⟩ (av := [.int 1, .int p4, .int 8]) (rest := []) rfl rfl (Nat.le_of_ble_eq_true rfl) (v := some (.int (bI (inR 1 p4 8)))) (c81 hκ) ?_
        refine w_if0n ((inR 1 p4 8) = true) i_65_54 cB_eq ?_ ?_
        · intro h11
          refine w_push i_65_57 rfl ?_
          refine w_load i_65_58 rfl rfl ?_
          refine w_push i_65_60 rfl ?_
          refine w_callS i_65_62 ⟨by decide, by decide, by decide, rfl, rfl⟩ (av := [.int 1, .int p5, .int 8]) (rest := []) rfl rfl (Nat.le_of_ble_eq_true rfl) (v := some (.int (bI (inR 1 p5 8)))) (c81 hκ) ?_
          refine w_if0n ((inR 1 p5 8) = true) i_65_65 cB_eq ?_ ?_
          · intro h12
            refine w_push i_65_68 rfl ?_
            refine w_goto i_65_69 ?_
            exact (by first | exact (K2) | (have K9 := K2; simp only [↓if_pos h9, ↓if_pos h10, ↓if_pos h11, ↓if_pos h12] at K9 ⊢; exact (K9)))
          · intro h13
            refine w_push i_65_72 rfl ?_
            exact (by first | exact (K2) | (have K9 := K2; simp only [↓if_pos h9, ↓if_pos h10, ↓if_pos h11, ↓if_neg h13] at K9 ⊢; exact (K9)))
        · intro h14
          refine w_push i_65_72 rfl ?_
          exact (by first | exact (K2) | (have K9 := K2; simp only [↓if_pos h9, ↓if_pos h10, ↓if_neg h14] at K9 ⊢; exact (K9)))
      · intro h15
        refine w_push i_65_72 rfl ?_
        exact (by first | exact (K2) | (have K9 := K2; simp only [↓if_pos h9, ↓if_neg h15] at K9 ⊢; exact (K9)))
    · intro h16
      refine w_push i_65_72 rfl ?_
      exact (by first | exact (K2) | (have K9 := K2; simp only [↓if_neg h16] at K9 ⊢; exact (K9)))
  refine w_if0n ((inR 1 p0 4) = true) i_65_6 cB_eq ?_ ?_
  · intro h17
    refine w_push i_65_9 rfl ?_
    refine w_load i_65_10 rfl rfl ?_
    refine w_push i_65_11 rfl ?_
    refine w_callS i_65_12 ⟨by decide, by decide, by decide, rfl, rfl⟩ (av := [.int 1, .int p1, .int 2]) (rest := []) rfl rfl (Nat.le_of_ble_eq_true rfl) (v := some (.int (bI (inR 1 p1 2)))) (c81 hκ) ?_
    refine w_if0n ((inR 1 p1 2) = true) i_65_15 cB_eq ?_ ?_
    · intro h18
      refine w_push i_65_18 rfl ?_
      refine w_goto i_65_19 ?_
      exact (by first | exact (K1) | (have K9 := K1; simp only [↓if_pos h17, ↓if_pos h18] at K9 ⊢; exact (K9)))
    · intro h19
      refine w_push i_65_22 rfl ?_
      exact (by first | exact (K1) | (have K9 := K1; simp only [↓if_pos h17, ↓if_neg h19] at K9 ⊢; exact (K9)))
  · intro h20
    refine w_push i_65_22 rfl ?_
    exact (by first | exact (K1) | (have K9 := K1; simp only [↓if_neg h20] at K9 ⊢; exact (K9)))
theorem i_66_0 : ins 66 0 = some (.iconst 0, 1, 0, 0, 0, 0) := rfl
theorem i_66_1 : ins 66 1 = some (.iload_n 1, 2, 1, 0, 0, 0) := rfl
theorem i_66_2 : ins 66 2 = some (.iconst 3, 3, 0, 0, 0, 3) := rfl
theorem i_66_3 : ins 66 3 = some (.invokestatic 65, 6, 81, 1, 3, 0) := rfl
theorem i_66_6 : ins 66 6 = some (.ifCond .eq 29, 9, 35, 0, 0, 0) := rfl
theorem i_66_9 : ins 66 9 = some (.iload_n 2, 10, 2, 0, 0, 0) := rfl
theorem i_66_10 : ins 66 10 = some (.invokestatic 90, 13, 82, 1, 1, 0) := rfl
theorem i_66_13 : ins 66 13 = some (.ifCond .eq 22, 16, 35, 0, 0, 0) := rfl
theorem i_66_16 : ins 66 16 = some (.iconst 0, 17, 0, 0, 0, 0) := rfl
theorem i_66_17 : ins 66 17 = some (.iload_n 3, 18, 3, 0, 0, 0) := rfl
theorem i_66_18 : ins 66 18 = some (.iconst 5, 19, 0, 0, 0, 5) := rfl
theorem i_66_19 : ins 66 19 = some (.invokestatic 65, 22, 81, 1, 3, 0) := rfl
theorem i_66_22 : ins 66 22 = some (.ifCond .eq 13, 25, 35, 0, 0, 0) := rfl
theorem i_66_25 : ins 66 25 = some (.iconst 0, 26, 0, 0, 0, 0) := rfl
theorem i_66_26 : ins 66 26 = some (.iload 4, 28, 4, 0, 0, 0) := rfl
theorem i_66_28 : ins 66 28 = some (.iconst 5, 29, 0, 0, 0, 5) := rfl
theorem i_66_29 : ins 66 29 = some (.invokestatic 65, 32, 81, 1, 3, 0) := rfl
theorem i_66_32 : ins 66 32 = some (.ifCond .ne 11, 35, 43, 0, 0, 0) := rfl
theorem i_66_35 : ins 66 35 = some (.new 69, 38, 0, 1, 0, 0) := rfl
theorem i_66_43 : ins 66 43 = some (.aload_n 0, 44, 0, 0, 0, 0) := rfl
theorem i_66_44 : ins 66 44 = some (.getfield 47, 47, 6, 6, 0, 0) := rfl
theorem i_66_47 : ins 66 47 = some (.bipush 6, 49, 0, 0, 0, 6) := rfl
theorem i_66_49 : ins 66 49 = some (.if_icmp .lt 11, 52, 60, 0, 0, 0) := rfl
theorem i_66_52 : ins 66 52 = some (.new 94, 55, 1, 1, 0, 0) := rfl
theorem i_66_60 : ins 66 60 = some (.aload_n 0, 61, 0, 0, 0, 0) := rfl
theorem i_66_61 : ins 66 61 = some (.getfield 18, 64, 6, 1, 0, 0) := rfl
theorem i_66_64 : ins 66 64 = some (.aload_n 0, 65, 0, 0, 0, 0) := rfl
theorem i_66_65 : ins 66 65 = some (.getfield 47, 68, 6, 6, 0, 0) := rfl
theorem i_66_68 : ins 66 68 = some (.aaload, 69, 0, 0, 0, 0) := rfl
theorem i_66_69 : ins 66 69 = some (.iload_n 1, 70, 1, 0, 0, 0) := rfl
theorem i_66_70 : ins 66 70 = some (.iload_n 2, 71, 2, 0, 0, 0) := rfl
theorem i_66_71 : ins 66 71 = some (.iload_n 3, 72, 3, 0, 0, 0) := rfl
theorem i_66_72 : ins 66 72 = some (.iload 4, 74, 4, 0, 0, 0) := rfl
theorem i_66_74 : ins 66 74 = some (.invokevirtual 97, 77, 1, 0, 5, 0) := rfl
theorem S66_0 {Q : Ou → Prop} {M : Mem} {κ : Kp} (hκ : Rd κ) {nb : Nat} (hnb6 : nb ≤ 6) (hnb : M 0 6 = nI nb) {p0 : Int32} {p1 : Int32} {p2 : Int32} {p3 : Int32}
    (k1 : ((((inR 0 p0 3) = true) ∧ ((inR 0 p1 11) = true) ∧ ((inR 0 p2 5) = true) ∧ (¬ ((inR 0 p3 5) = true))) ∨ (((inR 0 p0 3) = true) ∧ ((inR 0 p1 11) = true) ∧ (¬ ((inR 0 p2 5) = true))) ∨ (((inR 0 p0 3) = true) ∧ (¬ ((inR 0 p1 11) = true))) ∨ (¬ ((inR 0 p0 3) = true))) → Q (.inr 0, M, (κ.1, κ.2.1, κ.2.2.1, kN κ, kC κ + 1, kU κ + 6)))
    (k2 : (inR 0 p0 3) = true → (inR 0 p1 11) = true → (inR 0 p2 5) = true → (inR 0 p3 5) = true → nb < 6 → RT 1 (0, entL 1 [.ref (5 + 18 * nb), .int p0, .int p1, .int p2, .int p3], [], M, κ) (fun o => ∃ v M1 κ1, o = (.inl v, M1, κ1) ∧ RT 66 (77, [.ref 0, .int p0, .int p1, .int p2, .int p3], v.toList ++ [], M1, κ1) Q))
    (k3 : (inR 0 p0 3) = true → (inR 0 p1 11) = true → (inR 0 p2 5) = true → (inR 0 p3 5) = true → ¬ (nb < 6) → Q (.inr 1, M, (κ.1, κ.2.1, κ.2.2.1, kN κ, kC κ + 1, kU κ + 6)))
    : RT 66 (0, [.ref 0, .int p0, .int p1, .int p2, .int p3], [], M, κ) Q := by
  refine w_push i_66_0 rfl ?_
  refine w_load i_66_1 rfl rfl ?_
  refine w_push i_66_2 rfl ?_
  refine w_callS i_66_3 ⟨by decide, by decide, by decide, rfl, rfl⟩ (av := [.int 0, .int p0, .int 3]) (rest := []) rfl rfl (Nat.le_of_ble_eq_true rfl) (v := some (.int (bI (inR 0 p0 3)))) (c81 hκ) ?_
  have K1 : ((((inR 0 p0 3) = true) ∧ ((inR 0 p1 11) = true) ∧ ((inR 0 p2 5) = true) ∧ (¬ ((inR 0 p3 5) = true))) ∨ (((inR 0 p0 3) = true) ∧ ((inR 0 p1 11) = true) ∧ (¬ ((inR 0 p2 5) = true))) ∨ (((inR 0 p0 3) = true) ∧ (¬ ((inR 0 p1 11) = true))) ∨ (¬ ((inR 0 p0 3) = true))) → RT 66 (35, [.ref 0, .int p0, .int p1, .int p2, .int p3], [], M, κ) Q := by
    intro h2
    exact w_throw i_66_35 rfl hκ (by decide) rfl (Nat.le_of_ble_eq_true rfl) (k1 h2)
  refine w_if0n ((inR 0 p0 3) = true) i_66_6 cB_eq ?_ ?_
  · intro h3
    refine w_load i_66_9 rfl rfl ?_
    refine w_callS i_66_10 ⟨by decide, by decide, by decide, rfl, rfl⟩ (av := [.int p1]) (rest := []) rfl rfl (Nat.le_of_ble_eq_true rfl) (v := some (.int (bI (inR 0 p1 11)))) (c82 hκ) ?_
    refine w_if0n ((inR 0 p1 11) = true) i_66_13 cB_eq ?_ ?_
    · intro h4
      refine w_push i_66_16 rfl ?_
      refine w_load i_66_17 rfl rfl ?_
      refine w_push i_66_18 rfl ?_
      refine w_callS i_66_19 ⟨by decide, by decide, by decide, rfl, rfl⟩ (av := [.int 0, .int p2, .int 5]) (rest := []) rfl rfl (Nat.le_of_ble_eq_true rfl) (v := some (.int (bI (inR 0 p2 5)))) (c81 hκ) ?_
      refine w_if0n ((inR 0 p2 5) = true) i_66_22 cB_eq ?_ ?_
      · intro h5
        refine w_push i_66_25 rfl ?_
        refine w_load i_66_26 rfl rfl ?_
        refine w_push i_66_28 rfl ?_
        refine w_callS i_66_29 ⟨by decide, by decide, by decide, rfl, rfl⟩ (av := [.int 0, .int p3, .int 5]) (rest := []) rfl rfl (Nat.le_of_ble_eq_true rfl) (v := some (.int (bI (inR 0 p3 5)))) (c81 hκ) ?_
        refine w_if0 ((inR 0 p3 5) = true) i_66_32 cB_ne ?_ ?_
        · intro h6
          refine w_load i_66_43 rfl rfl ?_
          refine w_getI (v := (nI nb)) i_66_44 hκ (⟨rfl, by decide⟩ : isOb 0 6) rfl (hnb) ?_
          refine w_push i_66_47 rfl ?_
          refine w_if2 (nb < 6) i_66_49 (cN_lt (a := nb) (b := 6) (by omega) (by omega)) ?_ ?_
          · intro h7
            refine w_load i_66_60 rfl rfl ?_
            refine w_getR 2 i_66_61 hκ (⟨rfl, by decide⟩ : isOb 0 6) rfl rfl ?_
            refine w_load i_66_64 rfl rfl ?_
            refine w_getI (v := (nI nb)) i_66_65 hκ (⟨rfl, by decide⟩ : isOb 0 6) rfl (hnb) ?_
            refine w_aaldN (e := nb) (5 + 18 * nb) i_66_68 hκ (⟨by decide, by decide⟩ : (kd 2 = 22 ∨ kd 2 = 23) ∧ 2 < 180) (by omega) rfl ?_
            refine w_load i_66_69 rfl rfl ?_
            refine w_load i_66_70 rfl rfl ?_
            refine w_load i_66_71 rfl rfl ?_
            refine w_load i_66_72 rfl rfl ?_
            exact w_callVI (i := _) i_66_74 ⟨by decide, by decide, by decide, rfl⟩ hκ (bl_ob (bl_g (by omega : nb < 6))) (av := [.int p0, .int p1, .int p2, .int p3]) (rest := []) rfl rfl (Nat.le_of_ble_eq_true rfl) (k2 h3 h4 h5 h6 h7)
          · intro h8
            exact w_throw i_66_52 rfl hκ (by decide) rfl (Nat.le_of_ble_eq_true rfl) (k3 h3 h4 h5 h6 h8)
        · intro h9
          exact (by first | exact (K1 (.inl ⟨h3, h4, h5, h9⟩)) | (have K9 := K1 (.inl ⟨h3, h4, h5, h9⟩); simp only [↓if_pos h3, ↓if_pos h4, ↓if_pos h5, ↓if_neg h9] at K9 ⊢; exact (K9)))
      · intro h10
        exact (by first | exact (K1 (.inr (.inl ⟨h3, h4, h10⟩))) | (have K9 := K1 (.inr (.inl ⟨h3, h4, h10⟩)); simp only [↓if_pos h3, ↓if_pos h4, ↓if_neg h10] at K9 ⊢; exact (K9)))
    · intro h11
      exact (by first | exact (K1 (.inr (.inr (.inl ⟨h3, h11⟩)))) | (have K9 := K1 (.inr (.inr (.inl ⟨h3, h11⟩))); simp only [↓if_pos h3, ↓if_neg h11] at K9 ⊢; exact (K9)))
  · intro h12
    exact (by first | exact (K1 (.inr (.inr (.inr h12)))) | (have K9 := K1 (.inr (.inr (.inr h12))); simp only [↓if_neg h12] at K9 ⊢; exact (K9)))
theorem i_66_77 : ins 66 77 = some (.aload_n 0, 78, 0, 0, 0, 0) := rfl
theorem i_66_78 : ins 66 78 = some (.dup, 79, 0, 0, 0, 0) := rfl
theorem i_66_79 : ins 66 79 = some (.getfield 47, 82, 6, 6, 0, 0) := rfl
theorem i_66_82 : ins 66 82 = some (.iconst 1, 83, 0, 0, 0, 1) := rfl
theorem i_66_83 : ins 66 83 = some (.iadd, 84, 0, 0, 0, 0) := rfl
theorem i_66_84 : ins 66 84 = some (.putfield 47, 87, 6, 6, 0, 0) := rfl
theorem i_66_87 : ins 66 87 = some (.aload_n 0, 88, 0, 0, 0, 0) := rfl
theorem i_66_88 : ins 66 88 = some (.iconst 0, 89, 0, 0, 0, 0) := rfl
theorem i_66_89 : ins 66 89 = some (.putfield 51, 92, 6, 7, 0, 0) := rfl
theorem i_66_92 : ins 66 92 = some (.aload_n 0, 93, 0, 0, 0, 0) := rfl
theorem i_66_93 : ins 66 93 = some (.getfield 47, 96, 6, 6, 0, 0) := rfl
theorem i_66_96 : ins 66 96 = some (.iconst 1, 97, 0, 0, 0, 1) := rfl
theorem i_66_97 : ins 66 97 = some (.isub, 98, 0, 0, 0, 0) := rfl
theorem i_66_98 : ins 66 98 = some (.ireturn, 99, 0, 0, 0, 0) := rfl
theorem S66_77 {Q : Ou → Prop} {M : Mem} {κ : Kp} (hκ : Rd κ) {nb : Nat} (hnb6 : nb ≤ 6) (hnb : M 0 6 = nI nb) {p0 : Int32} {p1 : Int32} {p2 : Int32} {p3 : Int32}
    (k1 : Q (.inl (some (.int ((nI (nb + 1)) - 1))), (stM (stM M 0 6 (nI (nb + 1))) 0 7 0), κ))
    : RT 66 (77, [.ref 0, .int p0, .int p1, .int p2, .int p3], [], M, κ) Q := by
  refine w_load i_66_77 rfl rfl ?_
  refine w_dup i_66_78 rfl ?_
  refine w_getI (v := (nI nb)) i_66_79 hκ (⟨rfl, by decide⟩ : isOb 0 6) rfl (hnb) ?_
  refine w_push i_66_82 rfl ?_
  refine w_bin (w := (nI (nb + 1))) i_66_83 rfl (nI_add nb 1) ?_
  refine w_putI i_66_84 hκ (⟨rfl, by decide⟩ : isOb 0 6) rfl (fun c => absurd c (by decide)) ?_
  refine w_load i_66_87 rfl rfl ?_
  refine w_push i_66_88 rfl ?_
  refine w_putI i_66_89 hκ (⟨rfl, by decide⟩ : isOb 0 6) rfl (fun _ => rfl) ?_
  refine w_load i_66_92 rfl rfl ?_
  refine w_getI (v := (nI (nb + 1))) i_66_93 hκ (⟨rfl, by decide⟩ : isOb 0 6) rfl ((stM_j (by decide)).trans (stM_s)) ?_
  refine w_push i_66_96 rfl ?_
  refine w_bin (w := ((nI (nb + 1)) - 1)) i_66_97 rfl rfl ?_
  exact w_iret i_66_98 (.inl rfl) (k1)
theorem i_67_0 : ins 67 0 = some (.iconst 0, 1, 0, 0, 0, 0) := rfl
theorem i_67_1 : ins 67 1 = some (.iload_n 1, 2, 1, 0, 0, 0) := rfl
theorem i_67_2 : ins 67 2 = some (.bipush 9, 4, 0, 0, 0, 9) := rfl
theorem i_67_4 : ins 67 4 = some (.invokestatic 65, 7, 81, 1, 3, 0) := rfl
theorem i_67_7 : ins 67 7 = some (.ifCond .eq 37, 10, 44, 0, 0, 0) := rfl
theorem i_67_10 : ins 67 10 = some (.iload_n 2, 11, 2, 0, 0, 0) := rfl
theorem i_67_11 : ins 67 11 = some (.invokestatic 90, 14, 82, 1, 1, 0) := rfl
theorem i_67_14 : ins 67 14 = some (.ifCond .eq 30, 17, 44, 0, 0, 0) := rfl
theorem i_67_17 : ins 67 17 = some (.iload_n 3, 18, 3, 0, 0, 0) := rfl
theorem i_67_18 : ins 67 18 = some (.invokestatic 90, 21, 82, 1, 1, 0) := rfl
theorem i_67_21 : ins 67 21 = some (.ifCond .eq 23, 24, 44, 0, 0, 0) := rfl
theorem i_67_24 : ins 67 24 = some (.iload 4, 26, 4, 0, 0, 0) := rfl
theorem i_67_26 : ins 67 26 = some (.invokestatic 90, 29, 82, 1, 1, 0) := rfl
theorem i_67_29 : ins 67 29 = some (.ifCond .eq 15, 32, 44, 0, 0, 0) := rfl
theorem i_67_32 : ins 67 32 = some (.bipush (-12), 34, 0, 0, 0, (-12)) := rfl
theorem i_67_34 : ins 67 34 = some (.iload 6, 36, 6, 0, 0, 0) := rfl
theorem i_67_36 : ins 67 36 = some (.bipush 12, 38, 0, 0, 0, 12) := rfl
theorem i_67_38 : ins 67 38 = some (.invokestatic 65, 41, 81, 1, 3, 0) := rfl
theorem i_67_41 : ins 67 41 = some (.ifCond .ne 11, 44, 52, 0, 0, 0) := rfl
theorem i_67_44 : ins 67 44 = some (.new 69, 47, 0, 1, 0, 0) := rfl
theorem i_67_52 : ins 67 52 = some (.aload_n 0, 53, 0, 0, 0, 0) := rfl
theorem i_67_53 : ins 67 53 = some (.getfield 47, 56, 6, 6, 0, 0) := rfl
theorem i_67_56 : ins 67 56 = some (.iconst 1, 57, 0, 0, 0, 1) := rfl
theorem i_67_57 : ins 67 57 = some (.if_icmp .lt 22, 60, 79, 0, 0, 0) := rfl
theorem i_67_60 : ins 67 60 = some (.aload_n 0, 61, 0, 0, 0, 0) := rfl
theorem i_67_61 : ins 67 61 = some (.getfield 18, 64, 6, 1, 0, 0) := rfl
theorem i_67_64 : ins 67 64 = some (.aload_n 0, 65, 0, 0, 0, 0) := rfl
theorem i_67_65 : ins 67 65 = some (.getfield 47, 68, 6, 6, 0, 0) := rfl
theorem i_67_68 : ins 67 68 = some (.iconst 1, 69, 0, 0, 0, 1) := rfl
theorem i_67_69 : ins 67 69 = some (.isub, 70, 0, 0, 0, 0) := rfl
theorem i_67_70 : ins 67 70 = some (.aaload, 71, 0, 0, 0, 0) := rfl
theorem i_67_71 : ins 67 71 = some (.getfield 101, 74, 0, 4, 0, 0) := rfl
theorem i_67_74 : ins 67 74 = some (.bipush 10, 76, 0, 0, 0, 10) := rfl
theorem i_67_76 : ins 67 76 = some (.if_icmp .lt 11, 79, 87, 0, 0, 0) := rfl
theorem i_67_79 : ins 67 79 = some (.new 94, 82, 1, 1, 0, 0) := rfl
theorem i_67_87 : ins 67 87 = some (.aload_n 0, 88, 0, 0, 0, 0) := rfl
theorem i_67_88 : ins 67 88 = some (.getfield 18, 91, 6, 1, 0, 0) := rfl
theorem i_67_91 : ins 67 91 = some (.aload_n 0, 92, 0, 0, 0, 0) := rfl
theorem i_67_92 : ins 67 92 = some (.getfield 47, 95, 6, 6, 0, 0) := rfl
theorem i_67_95 : ins 67 95 = some (.iconst 1, 96, 0, 0, 0, 1) := rfl
theorem i_67_96 : ins 67 96 = some (.isub, 97, 0, 0, 0, 0) := rfl
theorem i_67_97 : ins 67 97 = some (.aaload, 98, 0, 0, 0, 0) := rfl
theorem i_67_98 : ins 67 98 = some (.astore 7, 100, 7, 0, 0, 0) := rfl
theorem i_67_100 : ins 67 100 = some (.aload 7, 102, 7, 0, 0, 0) := rfl
theorem i_67_102 : ins 67 102 = some (.iload_n 1, 103, 1, 0, 0, 0) := rfl
theorem i_67_103 : ins 67 103 = some (.iload_n 2, 104, 2, 0, 0, 0) := rfl
theorem i_67_104 : ins 67 104 = some (.iload_n 3, 105, 3, 0, 0, 0) := rfl
theorem i_67_105 : ins 67 105 = some (.iload 4, 107, 4, 0, 0, 0) := rfl
theorem i_67_107 : ins 67 107 = some (.iload 5, 109, 5, 0, 0, 0) := rfl
theorem i_67_109 : ins 67 109 = some (.iload 6, 111, 6, 0, 0, 0) := rfl
theorem i_67_111 : ins 67 111 = some (.invokevirtual 104, 114, 2, 0, 7, 0) := rfl
theorem S67_0 {Q : Ou → Prop} {M : Mem} {κ : Kp} (hκ : Rd κ) {nb : Nat} (hnb6 : nb ≤ 6) (hnb : M 0 6 = nI nb) {p0 : Int32} {p1 : Int32} {p2 : Int32} {p3 : Int32} {p4 : Int32} {p5 : Int32}
    (o1 : (inR 0 p0 9) = true → (inR 0 p1 11) = true → (inR 0 p2 11) = true → (inR 0 p3 11) = true → (inR (-12) p5 12) = true → ¬ (nb < 1) → vp_in ((nI nb) - 1) 6)
    (k1 : ((((inR 0 p0 9) = true) ∧ ((inR 0 p1 11) = true) ∧ ((inR 0 p2 11) = true) ∧ ((inR 0 p3 11) = true) ∧ (¬ ((inR (-12) p5 12) = true))) ∨ (((inR 0 p0 9) = true) ∧ ((inR 0 p1 11) = true) ∧ ((inR 0 p2 11) = true) ∧ (¬ ((inR 0 p3 11) = true))) ∨ (((inR 0 p0 9) = true) ∧ ((inR 0 p1 11) = true) ∧ (¬ ((inR 0 p2 11) = true))) ∨ (((inR 0 p0 9) = true) ∧ (¬ ((inR 0 p1 11) = true))) ∨ (¬ ((inR 0 p0 9) = true))) → Q (.inr 0, M, (κ.1, κ.2.1, κ.2.2.1, kN κ, kC κ + 1, kU κ + 6)))
    (k2 : (inR 0 p0 9) = true → (inR 0 p1 11) = true → (inR 0 p2 11) = true → (inR 0 p3 11) = true → (inR (-12) p5 12) = true → ((nb < 1) ∨ ((¬ (nb < 1)) ∧ (¬ ((M (5 + 18 * ((nI nb) - 1).toNatClampNeg) 4) < 10)))) → Q (.inr 1, M, (κ.1, κ.2.1, κ.2.2.1, kN κ, kC κ + 1, kU κ + 6)))
    (k3 : (inR 0 p0 9) = true → (inR 0 p1 11) = true → (inR 0 p2 11) = true → (inR 0 p3 11) = true → (inR (-12) p5 12) = true → ¬ (nb < 1) → (M (5 + 18 * ((nI nb) - 1).toNatClampNeg) 4) < 10 → RT 2 (0, entL 2 [.ref (5 + 18 * ((nI nb) - 1).toNatClampNeg), .int p0, .int p1, .int p2, .int p3, .int p4, .int p5], [], M, κ) (fun o => ∃ v M1 κ1, o = (.inl v, M1, κ1) ∧ RT 67 (114, [.ref 0, .int p0, .int p1, .int p2, .int p3, .int p4, .int p5, .ref (5 + 18 * ((nI nb) - 1).toNatClampNeg)], v.toList ++ [], M1, κ1) Q))
    : RT 67 (0, [.ref 0, .int p0, .int p1, .int p2, .int p3, .int p4, .int p5, UU], [], M, κ) Q := by
  refine w_push i_67_0 rfl ?_
  refine w_load i_67_1 rfl rfl ?_
  refine w_push i_67_2 rfl ?_
  refine w_callS i_67_4 ⟨by decide, by decide, by decide, rfl, rfl⟩ (av := [.int 0, .int p0, .int 9]) (rest := []) rfl rfl (Nat.le_of_ble_eq_true rfl) (v := some (.int (bI (inR 0 p0 9)))) (c81 hκ) ?_
  have K1 : ((((inR 0 p0 9) = true) ∧ ((inR 0 p1 11) = true) ∧ ((inR 0 p2 11) = true) ∧ ((inR 0 p3 11) = true) ∧ (¬ ((inR (-12) p5 12) = true))) ∨ (((inR 0 p0 9) = true) ∧ ((inR 0 p1 11) = true) ∧ ((inR 0 p2 11) = true) ∧ (¬ ((inR 0 p3 11) = true))) ∨ (((inR 0 p0 9) = true) ∧ ((inR 0 p1 11) = true) ∧ (¬ ((inR 0 p2 11) = true))) ∨ (((inR 0 p0 9) = true) ∧ (¬ ((inR 0 p1 11) = true))) ∨ (¬ ((inR 0 p0 9) = true))) → RT 67 (44, [.ref 0, .int p0, .int p1, .int p2, .int p3, .int p4, .int p5, UU], [], M, κ) Q := by
    intro h2
    exact w_throw i_67_44 rfl hκ (by decide) rfl (Nat.le_of_ble_eq_true rfl) (k1 h2)
  refine w_if0n ((inR 0 p0 9) = true) i_67_7 cB_eq ?_ ?_
  · intro h3
    refine w_load i_67_10 rfl rfl ?_
    refine w_callS i_67_11 ⟨by decide, by decide, by decide, rfl, rfl⟩ (av := [.int p1]) (rest := []) rfl rfl (Nat.le_of_ble_eq_true rfl) (v := some (.int (bI (inR 0 p1 11)))) (c82 hκ) ?_
    refine w_if0n ((inR 0 p1 11) = true) i_67_14 cB_eq ?_ ?_
    · intro h4
      refine w_load i_67_17 rfl rfl ?_
      refine w_callS i_67_18 ⟨by decide, by decide, by decide, rfl, rfl⟩ (av := [.int p2]) (rest := []) rfl rfl (Nat.le_of_ble_eq_true rfl) (v := some (.int (bI (inR 0 p2 11)))) (c82 hκ) ?_
      refine w_if0n ((inR 0 p2 11) = true) i_67_21 cB_eq ?_ ?_
      · intro h5
        refine w_load i_67_24 rfl rfl ?_
        refine w_callS i_67_26 ⟨by decide, by decide, by decide, rfl, rfl⟩ (av := [.int p3]) (rest := []) rfl rfl (Nat.le_of_ble_eq_true rfl) (v := some (.int (bI (inR 0 p3 11)))) (c82 hκ) ?_
        refine w_if0n ((inR 0 p3 11) = true) i_67_29 cB_eq ?_ ?_
        · intro h6
          refine w_push i_67_32 rfl ?_
          refine w_load i_67_34 rfl rfl ?_
          refine w_push i_67_36 rfl ?_
          refine w_callS i_67_38 ⟨by decide, by decide, by decide, rfl, rfl⟩ (av := [.int (-12), .int p5, .int 12]) (rest := []) rfl rfl (Nat.le_of_ble_eq_true rfl) (v := some (.int (bI (inR (-12) p5 12)))) (c81 hκ) ?_
          refine w_if0 ((inR (-12) p5 12) = true) i_67_41 cB_ne ?_ ?_
          · intro h7
            refine w_load i_67_52 rfl rfl ?_
            refine w_getI (v := (nI nb)) i_67_53 hκ (⟨rfl, by decide⟩ : isOb 0 6) rfl (hnb) ?_
            refine w_push i_67_56 rfl ?_
            have K8 : ((nb < 1) ∨ ((¬ (nb < 1)) ∧ (¬ ((M (5 + 18 * ((nI nb) - 1).toNatClampNeg) 4) < 10)))) → RT 67 (79, [.ref 0, .int p0, .int p1, .int p2, .int p3, .int p4, .int p5, UU], [], M, κ) Q := by
              intro h9
              exact w_throw i_67_79 rfl hκ (by decide) rfl (Nat.le_of_ble_eq_true rfl) (k2 h3 h4 h5 h6 h7 h9)
            refine w_if2 (nb < 1) i_67_57 (cN_lt (a := nb) (b := 1) (by omega) (by omega)) ?_ ?_
            · intro h10
              exact (by first | exact (K8 (.inl h10)) | (have K9 := K8 (.inl h10); simp only [↓if_pos h10] at K9 ⊢; exact (K9)))
            · intro h11
              refine w_load i_67_60 rfl rfl ?_
              refine w_getR 2 i_67_61 hκ (⟨rfl, by decide⟩ : isOb 0 6) rfl rfl ?_
              refine w_load i_67_64 rfl rfl ?_
              refine w_getI (v := (nI nb)) i_67_65 hκ (⟨rfl, by decide⟩ : isOb 0 6) rfl (hnb) ?_
              refine w_push i_67_68 rfl ?_
              refine w_bin (w := ((nI nb) - 1)) i_67_69 rfl rfl ?_
              refine w_aald (5 + 18 * ((nI nb) - 1).toNatClampNeg) i_67_70 hκ (⟨by decide, by decide⟩ : (kd 2 = 22 ∨ kd 2 = 23) ∧ 2 < 180) (o1 h3 h4 h5 h6 h7 h11) rfl ?_
              refine w_getI (v := (M (5 + 18 * ((nI nb) - 1).toNatClampNeg) 4)) i_67_71 hκ (bl_ob (bl_g (vp_lt6 (o1 h3 h4 h5 h6 h7 h11)))) rfl (rfl) ?_
              refine w_push i_67_74 rfl ?_
              refine w_if2 ((M (5 + 18 * ((nI nb) - 1).toNatClampNeg) 4) < 10) i_67_76 cI_lt ?_ ?_
              · intro h12
                refine w_load i_67_87 rfl rfl ?_
                refine w_getR 2 i_67_88 hκ (⟨rfl, by decide⟩ : isOb 0 6) rfl rfl ?_
                refine w_load i_67_91 rfl rfl ?_
                refine w_getI (v := (nI nb)) i_67_92 hκ (⟨rfl, by decide⟩ : isOb 0 6) rfl (hnb) ?_
                refine w_push i_67_95 rfl ?_
                refine w_bin (w := ((nI nb) - 1)) i_67_96 rfl rfl ?_
                refine w_aald (5 + 18 * ((nI nb) - 1).toNatClampNeg) i_67_97 hκ (⟨by decide, by decide⟩ : (kd 2 = 22 ∨ kd 2 = 23) ∧ 2 < 180) (o1 h3 h4 h5 h6 h7 h11) rfl ?_
                refine w_store (l1 := [.ref 0, .int p0, .int p1, .int p2, .int p3, .int p4, .int p5, .ref (5 + 18 * ((nI nb) - 1).toNatClampNeg)]) i_67_98 rfl (Nat.le_of_ble_eq_true rfl) rfl ?_
                refine w_load i_67_100 rfl rfl ?_
                refine w_load i_67_102 rfl rfl ?_
                refine w_load i_67_103 rfl rfl ?_
                refine w_load i_67_104 rfl rfl ?_
                refine w_load i_67_105 rfl rfl ?_
                refine w_load i_67_107 rfl rfl ?_
                refine w_load i_67_109 rfl rfl ?_
                exact w_callVI (i := _) i_67_111 ⟨by decide, by decide, by decide, rfl⟩ hκ (bl_ob (bl_g (vp_lt6 (o1 h3 h4 h5 h6 h7 h11)))) (av := [.int p0, .int p1, .int p2, .int p3, .int p4, .int p5]) (rest := []) rfl rfl (Nat.le_of_ble_eq_true rfl) (k3 h3 h4 h5 h6 h7 h11 h12)
              · intro h13
                exact (by first | exact (K8 (.inr ⟨h11, h13⟩)) | (have K9 := K8 (.inr ⟨h11, h13⟩); simp only [↓if_neg h11, ↓if_neg h13] at K9 ⊢; exact (K9)))
          · intro h14
            exact (by first | exact (K1 (.inl ⟨h3, h4, h5, h6, h14⟩)) | (have K9 := K1 (.inl ⟨h3, h4, h5, h6, h14⟩); simp only [↓if_pos h3, ↓if_pos h4, ↓if_pos h5, ↓if_pos h6, ↓if_neg h14] at K9 ⊢; exact (K9)))
        · intro h15
          exact (by first | exact (K1 (.inr (.inl ⟨h3, h4, h5, h15⟩))) | (have K9 := K1 (.inr (.inl ⟨h3, h4, h5, h15⟩)); simp only [↓if_pos h3, ↓if_pos h4, ↓if_pos h5, ↓if_neg h15] at K9 ⊢; exact (K9)))
      · intro h16
        exact (by first | exact (K1 (.inr (.inr (.inl ⟨h3, h4, h16⟩)))) | (have K9 := K1 (.inr (.inr (.inl ⟨h3, h4, h16⟩))); simp only [↓if_pos h3, ↓if_pos h4, ↓if_neg h16] at K9 ⊢; exact (K9)))
    · intro h17
      exact (by first | exact (K1 (.inr (.inr (.inr (.inl ⟨h3, h17⟩))))) | (have K9 := K1 (.inr (.inr (.inr (.inl ⟨h3, h17⟩)))); simp only [↓if_pos h3, ↓if_neg h17] at K9 ⊢; exact (K9)))
  · intro h18
    exact (by first | exact (K1 (.inr (.inr (.inr (.inr h18))))) | (have K9 := K1 (.inr (.inr (.inr (.inr h18)))); simp only [↓if_neg h18] at K9 ⊢; exact (K9)))
theorem i_67_114 : ins 67 114 = some (.aload_n 0, 115, 0, 0, 0, 0) := rfl
theorem i_67_115 : ins 67 115 = some (.iconst 0, 116, 0, 0, 0, 0) := rfl
theorem i_67_116 : ins 67 116 = some (.putfield 51, 119, 6, 7, 0, 0) := rfl
theorem i_67_119 : ins 67 119 = some (.aload 7, 121, 7, 0, 0, 0) := rfl
theorem i_67_121 : ins 67 121 = some (.getfield 101, 124, 0, 4, 0, 0) := rfl
theorem i_67_124 : ins 67 124 = some (.iconst 1, 125, 0, 0, 0, 1) := rfl
theorem i_67_125 : ins 67 125 = some (.isub, 126, 0, 0, 0, 0) := rfl
theorem i_67_126 : ins 67 126 = some (.ireturn, 127, 0, 0, 0, 0) := rfl
theorem S67_114 {Q : Ou → Prop} {M : Mem} {κ : Kp} (hκ : Rd κ) {nb : Nat} (hx : nb < 6) {p0 : Int32} {p1 : Int32} {p2 : Int32} {p3 : Int32} {p4 : Int32} {p5 : Int32}
    (k1 : Q (.inl (some (.int ((M (5 + 18 * nb) 4) - 1))), (stM M 0 7 0), κ))
    : RT 67 (114, [.ref 0, .int p0, .int p1, .int p2, .int p3, .int p4, .int p5, .ref (5 + 18 * nb)], [], M, κ) Q := by
  refine w_load i_67_114 rfl rfl ?_
  refine w_push i_67_115 rfl ?_
  refine w_putI i_67_116 hκ (⟨rfl, by decide⟩ : isOb 0 6) rfl (fun _ => rfl) ?_
  refine w_load i_67_119 rfl rfl ?_
  refine w_getI (v := (M (5 + 18 * nb) 4)) i_67_121 hκ (bl_ob (bl_g hx)) rfl ((stM_o (by have := bl_rng (bl_g hx); omega)).trans (rfl)) ?_
  refine w_push i_67_124 rfl ?_
  refine w_bin (w := ((M (5 + 18 * nb) 4) - 1)) i_67_125 rfl rfl ?_
  exact w_iret i_67_126 (.inl rfl) (k1)
theorem i_68_0 : ins 68 0 = some (.aload_n 0, 1, 0, 0, 0, 0) := rfl
theorem i_68_1 : ins 68 1 = some (.iconst 0, 2, 0, 0, 0, 0) := rfl
theorem i_68_2 : ins 68 2 = some (.putfield 47, 5, 6, 6, 0, 0) := rfl
theorem i_68_5 : ins 68 5 = some (.aload_n 0, 6, 0, 0, 0, 0) := rfl
theorem i_68_6 : ins 68 6 = some (.iconst 0, 7, 0, 0, 0, 0) := rfl
theorem i_68_7 : ins 68 7 = some (.putfield 51, 10, 6, 7, 0, 0) := rfl
theorem i_68_10 : ins 68 10 = some (.return_, 11, 0, 0, 0, 0) := rfl
theorem S68_0 {Q : Ou → Prop} {M : Mem} {κ : Kp} (hκ : Rd κ)  
    (k1 : Q (.inl none, (stM (stM M 0 6 0) 0 7 0), κ))
    : RT 68 (0, [.ref 0], [], M, κ) Q := by
  refine w_load i_68_0 rfl rfl ?_
  refine w_push i_68_1 rfl ?_
  refine w_putI i_68_2 hκ (⟨rfl, by decide⟩ : isOb 0 6) rfl (fun c => absurd c (by decide)) ?_
  refine w_load i_68_5 rfl rfl ?_
  refine w_push i_68_6 rfl ?_
  refine w_putI i_68_7 hκ (⟨rfl, by decide⟩ : isOb 0 6) rfl (fun _ => rfl) ?_
  exact w_vret i_68_10 rfl (k1)
theorem i_69_0 : ins 69 0 = some (.aload_n 0, 1, 0, 0, 0, 0) := rfl
theorem i_69_1 : ins 69 1 = some (.getfield 58, 4, 6, 8, 0, 0) := rfl
theorem i_69_4 : ins 69 4 = some (.getfield 108, 7, 4, 5, 0, 0) := rfl
theorem i_69_7 : ins 69 7 = some (.iload_n 1, 8, 1, 0, 0, 0) := rfl
theorem i_69_8 : ins 69 8 = some (.invokestatic 112, 11, 84, 1, 1, 0) := rfl
theorem i_69_11 : ins 69 11 = some (.iload_n 2, 12, 2, 0, 0, 0) := rfl
theorem i_69_12 : ins 69 12 = some (.iastore, 13, 0, 0, 0, 0) := rfl
theorem i_69_13 : ins 69 13 = some (.return_, 14, 0, 0, 0, 0) := rfl
theorem S69_0 {Q : Ou → Prop} {M : Mem} {κ : Kp} (hκ : Rd κ) {oo : Nat} (ho : isOc oo) (ht8 : M 0 8 = nI oo) {ad : Int32} {va : Int32}
    (o1 : vp_in (ad &&& 63) 64)
    (k1 : Q (.inl none, (stM M (oo + 3) ((ad &&& 63).toNatClampNeg) va), κ))
    : RT 69 (0, [.ref 0, .int ad, .int va], [], M, κ) Q := by
  refine w_load i_69_0 rfl rfl ?_
  refine w_getD oo i_69_1 hκ (⟨rfl, by decide⟩ : isOb 0 6) rfl (ht8) (oc_pos ho) ?_
  refine w_getR (oo + 3) i_69_4 hκ (oc_ob ho) rfl rfl ?_
  refine w_load i_69_7 rfl rfl ?_
  refine w_callS i_69_8 ⟨by decide, by decide, by decide, rfl, rfl⟩ (av := [.int ad]) (rest := [.ref (oo + 3)]) rfl rfl (Nat.le_of_ble_eq_true rfl) (v := some (.int (ad &&& 63))) (c84 hκ) ?_
  refine w_load i_69_11 rfl rfl ?_
  refine w_iast i_69_12 hκ (oc_ar3 ho) (o1) ?_
  exact w_vret i_69_13 rfl (k1)
theorem i_70_0 : ins 70 0 = some (.aload_n 0, 1, 0, 0, 0, 0) := rfl
theorem i_70_1 : ins 70 1 = some (.getfield 58, 4, 6, 8, 0, 0) := rfl
theorem i_70_4 : ins 70 4 = some (.getfield 108, 7, 4, 5, 0, 0) := rfl
theorem i_70_7 : ins 70 7 = some (.iload_n 1, 8, 1, 0, 0, 0) := rfl
theorem i_70_8 : ins 70 8 = some (.invokestatic 112, 11, 84, 1, 1, 0) := rfl
theorem i_70_11 : ins 70 11 = some (.iaload, 12, 0, 0, 0, 0) := rfl
theorem i_70_12 : ins 70 12 = some (.ireturn, 13, 0, 0, 0, 0) := rfl
theorem S70_0 {Q : Ou → Prop} {M : Mem} {κ : Kp} (hκ : Rd κ) {oo : Nat} (ho : isOc oo) (ht8 : M 0 8 = nI oo) {ad : Int32}
    (o1 : vp_in (ad &&& 63) 64)
    (k1 : Q (.inl (some (.int (M (oo + 3) ((ad &&& 63).toNatClampNeg)))), M, κ))
    : RT 70 (0, [.ref 0, .int ad], [], M, κ) Q := by
  refine w_load i_70_0 rfl rfl ?_
  refine w_getD oo i_70_1 hκ (⟨rfl, by decide⟩ : isOb 0 6) rfl (ht8) (oc_pos ho) ?_
  refine w_getR (oo + 3) i_70_4 hκ (oc_ob ho) rfl rfl ?_
  refine w_load i_70_7 rfl rfl ?_
  refine w_callS i_70_8 ⟨by decide, by decide, by decide, rfl, rfl⟩ (av := [.int ad]) (rest := [.ref (oo + 3)]) rfl rfl (Nat.le_of_ble_eq_true rfl) (v := some (.int (ad &&& 63))) (c84 hκ) ?_
  refine w_iald (v := (M (oo + 3) ((ad &&& 63).toNatClampNeg))) i_70_11 hκ (oc_ar3 ho) (o1) (rfl) ?_
  exact w_iret i_70_12 (.inl rfl) (k1)
theorem i_73_0 : ins 73 0 = some (.iload_n 1, 1, 1, 0, 0, 0) := rfl
theorem i_73_1 : ins 73 1 = some (.tableswitch 59 0 2 #[27, 35, 51], 28, 0, 0, 0, 0) := rfl
theorem i_73_28 : ins 73 28 = some (.aload_n 0, 29, 0, 0, 0, 0) := rfl
theorem i_73_29 : ins 73 29 = some (.getfield 58, 32, 6, 8, 0, 0) := rfl
theorem i_73_32 : ins 73 32 = some (.getfield 144, 35, 4, 0, 0, 0) := rfl
theorem i_73_35 : ins 73 35 = some (.ireturn, 36, 0, 0, 0, 0) := rfl
theorem i_73_36 : ins 73 36 = some (.aload_n 0, 37, 0, 0, 0, 0) := rfl
theorem i_73_37 : ins 73 37 = some (.getfield 58, 40, 6, 8, 0, 0) := rfl
theorem i_73_40 : ins 73 40 = some (.getfield 147, 43, 4, 2, 0, 0) := rfl
theorem i_73_43 : ins 73 43 = some (.ifCond .eq 7, 46, 50, 0, 0, 0) := rfl
theorem i_73_46 : ins 73 46 = some (.iconst 1, 47, 0, 0, 0, 1) := rfl
theorem i_73_47 : ins 73 47 = some (.goto 4, 50, 51, 0, 0, 0) := rfl
theorem i_73_50 : ins 73 50 = some (.iconst 0, 51, 0, 0, 0, 0) := rfl
theorem i_73_51 : ins 73 51 = some (.ireturn, 52, 0, 0, 0, 0) := rfl
theorem i_73_52 : ins 73 52 = some (.aload_n 0, 53, 0, 0, 0, 0) := rfl
theorem i_73_53 : ins 73 53 = some (.getfield 58, 56, 6, 8, 0, 0) := rfl
theorem i_73_56 : ins 73 56 = some (.getfield 150, 59, 4, 1, 0, 0) := rfl
theorem i_73_59 : ins 73 59 = some (.ireturn, 60, 0, 0, 0, 0) := rfl
theorem i_73_60 : ins 73 60 = some (.new 120, 63, 2, 1, 0, 0) := rfl
theorem tg_73_1 {x : Int32} (h0 : ¬ x = 0) (h1 : ¬ x = 1) (h2 : ¬ x = 2) : tgtOk 1 (.tableswitch 59 0 2 #[27, 35, 51]) x 60 = true := tgd (by have e0 : x.toInt ≠ 0 := fun e => h0 (Int32.toInt_inj.mp e); have e1 : x.toInt ≠ 1 := fun e => h1 (Int32.toInt_inj.mp e); have e2 : x.toInt ≠ 2 := fun e => h2 (Int32.toInt_inj.mp e); omega) (by decide)
theorem S73_0 {Q : Ou → Prop} {M : Mem} {κ : Kp} (hκ : Rd κ) {oo oc tu : Nat} {tp : Bool} (ho : isOc oo) (ht8 : M 0 8 = nI oo) (hoc : M oo 0 = nI oc) (htu : M oo 1 = nI tu) (htp : M oo 2 = bI tp) {wh : Int32}
    (k1 : wh = 0 → Q (.inl (some (.int (nI oc))), M, κ))
    (k2 : ¬ (wh = 0) → wh = 1 → Q (.inl (some (.int (bI (if tp = true then true else false)))), M, κ))
    (k3 : ¬ (wh = 0) → ¬ (wh = 1) → wh = 2 → Q (.inl (some (.int (nI tu))), M, κ))
    (k4 : ¬ (wh = 0) → ¬ (wh = 1) → ¬ (wh = 2) → Q (.inr 2, M, (κ.1, κ.2.1, κ.2.2.1, kN κ, kC κ + 1, kU κ + 6)))
    : RT 73 (0, [.ref 0, .int wh], [], M, κ) Q := by
  refine w_load i_73_0 rfl rfl ?_
  by_cases h1 : wh = 0
  · refine w_table 28 i_73_1 (by rw [h1]; rfl) ?_
    refine w_load i_73_28 rfl rfl ?_
    refine w_getD oo i_73_29 hκ (⟨rfl, by decide⟩ : isOb 0 6) rfl (ht8) (oc_pos ho) ?_
    refine w_getI (v := (nI oc)) i_73_32 hκ (oc_ob ho) rfl (hoc) ?_
    exact w_iret i_73_35 (.inl rfl) (k1 h1)
  · have h2 := h1
    by_cases h3 : wh = 1
    · refine w_table 36 i_73_1 (by rw [h3]; rfl) ?_
      refine w_load i_73_36 rfl rfl ?_
      refine w_getD oo i_73_37 hκ (⟨rfl, by decide⟩ : isOb 0 6) rfl (ht8) (oc_pos ho) ?_
      refine w_getI (v := (bI tp)) i_73_40 hκ (oc_ob ho) rfl (htp) ?_
      have K4 : RT 73 (51, [.ref 0, .int wh], [.int (bI (if tp = true then true else false))], M, κ) Q := by
        exact w_iret i_73_51 (.inl rfl) (k2 h2 h3)
      refine w_if0n (tp = true) i_73_43 cB_eq ?_ ?_
      · intro h5
        refine w_push i_73_46 rfl ?_
        refine w_goto i_73_47 ?_
        exact (by first | exact (K4) | (have K9 := K4; simp only [↓if_pos h5] at K9 ⊢; exact (K9)))
      · intro h6
        refine w_push i_73_50 rfl ?_
        exact (by first | exact (K4) | (have K9 := K4; simp only [↓if_neg h6] at K9 ⊢; exact (K9)))
    · have h7 := h3
      by_cases h8 : wh = 2
      · refine w_table 52 i_73_1 (by rw [h8]; rfl) ?_
        refine w_load i_73_52 rfl rfl ?_
        refine w_getD oo i_73_53 hκ (⟨rfl, by decide⟩ : isOb 0 6) rfl (ht8) (oc_pos ho) ?_
        refine w_getI (v := (nI tu)) i_73_56 hκ (oc_ob ho) rfl (htu) ?_
        exact w_iret i_73_59 (.inl rfl) (k3 h2 h7 h8)
      · have h9 := h8
        refine w_table 60 i_73_1 (tg_73_1 h2 h7 h9) ?_
        exact w_throw i_73_60 rfl hκ (by decide) rfl (Nat.le_of_ble_eq_true rfl) (k4 h2 h7 h9)
theorem i_74_0 : ins 74 0 = some (.iload_n 1, 1, 1, 0, 0, 0) := rfl
theorem i_74_1 : ins 74 1 = some (.ifCond .lt 20, 4, 21, 0, 0, 0) := rfl
theorem i_74_4 : ins 74 4 = some (.iload_n 1, 5, 1, 0, 0, 0) := rfl
theorem i_74_5 : ins 74 5 = some (.aload_n 0, 6, 0, 0, 0, 0) := rfl
theorem i_74_6 : ins 74 6 = some (.getfield 58, 9, 6, 8, 0, 0) := rfl
theorem i_74_9 : ins 74 9 = some (.getfield 144, 12, 4, 0, 0, 0) := rfl
theorem i_74_12 : ins 74 12 = some (.if_icmp .ge 9, 15, 21, 0, 0, 0) := rfl
theorem i_74_15 : ins 74 15 = some (.iload_n 1, 16, 1, 0, 0, 0) := rfl
theorem i_74_16 : ins 74 16 = some (.bipush 64, 18, 0, 0, 0, 64) := rfl
theorem i_74_18 : ins 74 18 = some (.if_icmp .lt 11, 21, 29, 0, 0, 0) := rfl
theorem i_74_21 : ins 74 21 = some (.new 120, 24, 2, 1, 0, 0) := rfl
theorem i_74_29 : ins 74 29 = some (.aload_n 0, 30, 0, 0, 0, 0) := rfl
theorem i_74_30 : ins 74 30 = some (.getfield 58, 33, 6, 8, 0, 0) := rfl
theorem i_74_33 : ins 74 33 = some (.getfield 153, 36, 4, 3, 0, 0) := rfl
theorem i_74_36 : ins 74 36 = some (.iload_n 1, 37, 1, 0, 0, 0) := rfl
theorem i_74_37 : ins 74 37 = some (.iaload, 38, 0, 0, 0, 0) := rfl
theorem i_74_38 : ins 74 38 = some (.ireturn, 39, 0, 0, 0, 0) := rfl
theorem S74_0 {Q : Ou → Prop} {M : Mem} {κ : Kp} (hκ : Rd κ) {oo oc tu : Nat} {tp : Bool} (ho : isOc oo) (ht8 : M 0 8 = nI oo) (hoc : M oo 0 = nI oc) (htu : M oo 1 = nI tu) (htp : M oo 2 = bI tp) (hoc1 : oc ≤ 1000) {ix : Int32}
    (o1 : ¬ (ix < 0) → ix < (nI oc) → ix < 64 → vp_in ix 64)
    (k1 : ((ix < 0) ∨ ((¬ (ix < 0)) ∧ (ix < (nI oc)) ∧ (¬ (ix < 64))) ∨ ((¬ (ix < 0)) ∧ (¬ (ix < (nI oc))))) → Q (.inr 2, M, (κ.1, κ.2.1, κ.2.2.1, kN κ, kC κ + 1, kU κ + 6)))
    (k2 : ¬ (ix < 0) → ix < (nI oc) → ix < 64 → Q (.inl (some (.int (M (oo + 1) ix.toNatClampNeg))), M, κ))
    : RT 74 (0, [.ref 0, .int ix], [], M, κ) Q := by
  refine w_load i_74_0 rfl rfl ?_
  have K1 : ((ix < 0) ∨ ((¬ (ix < 0)) ∧ (ix < (nI oc)) ∧ (¬ (ix < 64))) ∨ ((¬ (ix < 0)) ∧ (¬ (ix < (nI oc))))) → RT 74 (21, [.ref 0, .int ix], [], M, κ) Q := by
    intro h2
    exact w_throw i_74_21 rfl hκ (by decide) rfl (Nat.le_of_ble_eq_true rfl) (k1 h2)
  refine w_if0 (ix < 0) i_74_1 cI0_lt ?_ ?_
  · intro h3
    exact (by first | exact (K1 (.inl h3)) | (have K9 := K1 (.inl h3); simp only [↓if_pos h3] at K9 ⊢; exact (K9)))
  · intro h4
    refine w_load i_74_4 rfl rfl ?_
    refine w_load i_74_5 rfl rfl ?_
    refine w_getD oo i_74_6 hκ (⟨rfl, by decide⟩ : isOb 0 6) rfl (ht8) (oc_pos ho) ?_
    refine w_getI (v := (nI oc)) i_74_9 hκ (oc_ob ho) rfl (hoc) ?_
    refine w_if2n (ix < (nI oc)) i_74_12 cI_ge ?_ ?_
    · intro h5
      refine w_load i_74_15 rfl rfl ?_
      refine w_push i_74_16 rfl ?_
      refine w_if2 (ix < 64) i_74_18 cI_lt ?_ ?_
      · intro h6
        refine w_load i_74_29 rfl rfl ?_
        refine w_getD oo i_74_30 hκ (⟨rfl, by decide⟩ : isOb 0 6) rfl (ht8) (oc_pos ho) ?_
        refine w_getR (oo + 1) i_74_33 hκ (oc_ob ho) rfl rfl ?_
        refine w_load i_74_36 rfl rfl ?_
        refine w_iald (v := (M (oo + 1) ix.toNatClampNeg)) i_74_37 hκ (oc_ar1 ho) (o1 h4 h5 h6) (rfl) ?_
        exact w_iret i_74_38 (.inl rfl) (k2 h4 h5 h6)
      · intro h7
        exact (by first | exact (K1 (.inr (.inl ⟨h4, h5, h7⟩))) | (have K9 := K1 (.inr (.inl ⟨h4, h5, h7⟩)); simp only [↓if_neg h4, ↓if_pos h5, ↓if_neg h7] at K9 ⊢; exact (K9)))
    · intro h8
      exact (by first | exact (K1 (.inr (.inr ⟨h4, h8⟩))) | (have K9 := K1 (.inr (.inr ⟨h4, h8⟩)); simp only [↓if_neg h4, ↓if_neg h8] at K9 ⊢; exact (K9)))
theorem i_75_0 : ins 75 0 = some (.iload_n 1, 1, 1, 0, 0, 0) := rfl
theorem i_75_1 : ins 75 1 = some (.invokestatic 90, 4, 82, 1, 1, 0) := rfl
theorem i_75_4 : ins 75 4 = some (.ifCond .ne 11, 7, 15, 0, 0, 0) := rfl
theorem i_75_7 : ins 75 7 = some (.new 120, 10, 2, 1, 0, 0) := rfl
theorem i_75_15 : ins 75 15 = some (.aload_n 0, 16, 0, 0, 0, 0) := rfl
theorem i_75_16 : ins 75 16 = some (.getfield 58, 19, 6, 8, 0, 0) := rfl
theorem i_75_19 : ins 75 19 = some (.getfield 147, 22, 4, 2, 0, 0) := rfl
theorem i_75_22 : ins 75 22 = some (.ifCond .eq 7, 25, 29, 0, 0, 0) := rfl
theorem i_75_25 : ins 75 25 = some (.iconst 0, 26, 0, 0, 0, 0) := rfl
theorem i_75_26 : ins 75 26 = some (.goto 12, 29, 38, 0, 0, 0) := rfl
theorem i_75_29 : ins 75 29 = some (.aload_n 0, 30, 0, 0, 0, 0) := rfl
theorem i_75_30 : ins 75 30 = some (.getfield 58, 33, 6, 8, 0, 0) := rfl
theorem i_75_33 : ins 75 33 = some (.getfield 156, 36, 4, 4, 0, 0) := rfl
theorem i_75_36 : ins 75 36 = some (.iload_n 1, 37, 1, 0, 0, 0) := rfl
theorem i_75_37 : ins 75 37 = some (.iaload, 38, 0, 0, 0, 0) := rfl
theorem i_75_38 : ins 75 38 = some (.ireturn, 39, 0, 0, 0, 0) := rfl
theorem S75_0 {Q : Ou → Prop} {M : Mem} {κ : Kp} (hκ : Rd κ) {oo oc tu : Nat} {tp : Bool} (ho : isOc oo) (ht8 : M 0 8 = nI oo) (hoc : M oo 0 = nI oc) (htu : M oo 1 = nI tu) (htp : M oo 2 = bI tp) {vv : Int32}
    (o1 : (inR 0 vv 11) = true → ¬ (tp = true) → vp_in vv 12)
    (k1 : (inR 0 vv 11) = true → Q (.inl (some (.int (if tp = true then 0 else (M (oo + 2) vv.toNatClampNeg)))), M, κ))
    (k2 : ¬ ((inR 0 vv 11) = true) → Q (.inr 2, M, (κ.1, κ.2.1, κ.2.2.1, kN κ, kC κ + 1, kU κ + 6)))
    : RT 75 (0, [.ref 0, .int vv], [], M, κ) Q := by
  refine w_load i_75_0 rfl rfl ?_
  refine w_callS i_75_1 ⟨by decide, by decide, by decide, rfl, rfl⟩ (av := [.int vv]) (rest := []) rfl rfl (Nat.le_of_ble_eq_true rfl) (v := some (.int (bI (inR 0 vv 11)))) (c82 hκ) ?_
  refine w_if0 ((inR 0 vv 11) = true) i_75_4 cB_ne ?_ ?_
  · intro h1
    refine w_load i_75_15 rfl rfl ?_
    refine w_getD oo i_75_16 hκ (⟨rfl, by decide⟩ : isOb 0 6) rfl (ht8) (oc_pos ho) ?_
    refine w_getI (v := (bI tp)) i_75_19 hκ (oc_ob ho) rfl (htp) ?_
    have K2 : RT 75 (38, [.ref 0, .int vv], [.int (if tp = true then 0 else (M (oo + 2) vv.toNatClampNeg))], M, κ) Q := by
      exact w_iret i_75_38 (.inl rfl) (k1 h1)
    refine w_if0n (tp = true) i_75_22 cB_eq ?_ ?_
    · intro h3
      refine w_push i_75_25 rfl ?_
      refine w_goto i_75_26 ?_
      exact (by first | exact (K2) | (have K9 := K2; simp only [↓if_pos h3] at K9 ⊢; exact (K9)))
    · intro h4
      refine w_load i_75_29 rfl rfl ?_
      refine w_getD oo i_75_30 hκ (⟨rfl, by decide⟩ : isOb 0 6) rfl (ht8) (oc_pos ho) ?_
      refine w_getR (oo + 2) i_75_33 hκ (oc_ob ho) rfl rfl ?_
      refine w_load i_75_36 rfl rfl ?_
      refine w_iald (v := (M (oo + 2) vv.toNatClampNeg)) i_75_37 hκ (oc_ar2 ho) (o1 h1 h4) (rfl) ?_
      exact (by first | exact (K2) | (have K9 := K2; simp only [↓if_neg h4] at K9 ⊢; exact (K9)))
  · intro h5
    exact w_throw i_75_7 rfl hκ (by decide) rfl (Nat.le_of_ble_eq_true rfl) (k2 h5)
theorem i_80_0 : ins 80 0 = some (.aload_n 0, 1, 0, 0, 0, 0) := rfl
theorem i_80_1 : ins 80 1 = some (.getfield 51, 4, 6, 7, 0, 0) := rfl
theorem i_80_4 : ins 80 4 = some (.ifCond .ne 11, 7, 15, 0, 0, 0) := rfl
theorem i_80_7 : ins 80 7 = some (.new 94, 10, 1, 1, 0, 0) := rfl
theorem i_80_15 : ins 80 15 = some (.iload_n 1, 16, 1, 0, 0, 0) := rfl
theorem i_80_16 : ins 80 16 = some (.ifCond .lt 23, 19, 39, 0, 0, 0) := rfl
theorem i_80_19 : ins 80 19 = some (.iload_n 1, 20, 1, 0, 0, 0) := rfl
theorem i_80_20 : ins 80 20 = some (.aload_n 0, 21, 0, 0, 0, 0) := rfl
theorem i_80_21 : ins 80 21 = some (.getfield 47, 24, 6, 6, 0, 0) := rfl
theorem i_80_24 : ins 80 24 = some (.if_icmp .ge 15, 27, 39, 0, 0, 0) := rfl
theorem i_80_27 : ins 80 27 = some (.aload_n 0, 28, 0, 0, 0, 0) := rfl
theorem i_80_28 : ins 80 28 = some (.getfield 22, 31, 6, 2, 0, 0) := rfl
theorem i_80_31 : ins 80 31 = some (.iload_n 1, 32, 1, 0, 0, 0) := rfl
theorem i_80_32 : ins 80 32 = some (.aaload, 33, 0, 0, 0, 0) := rfl
theorem i_80_33 : ins 80 33 = some (.getfield 206, 36, 0, 5, 0, 0) := rfl
theorem i_80_36 : ins 80 36 = some (.ifCond .eq 11, 39, 47, 0, 0, 0) := rfl
theorem i_80_39 : ins 80 39 = some (.new 181, 42, 4, 1, 0, 0) := rfl
theorem i_80_47 : ins 80 47 = some (.return_, 48, 0, 0, 0, 0) := rfl
theorem S80_0 {Q : Ou → Prop} {M : Mem} {κ : Kp} (hκ : Rd κ) {nb : Nat} {cf : Bool} (hnb6 : nb ≤ 6) (hnb : M 0 6 = nI nb) (hcf : M 0 7 = bI cf) {xx : Int32}
    (o1 : cf = true → ¬ (xx < 0) → xx < (nI nb) → vp_in xx 6)
    (k1 : cf = true → ((xx < 0) ∨ ((¬ (xx < 0)) ∧ (xx < (nI nb)) ∧ (¬ ((M (12 + 18 * xx.toNatClampNeg) 5) = 0))) ∨ ((¬ (xx < 0)) ∧ (¬ (xx < (nI nb))))) → Q (.inr 4, M, (κ.1, κ.2.1, κ.2.2.1, kN κ, kC κ + 1, kU κ + 6)))
    (k2 : cf = true → ¬ (xx < 0) → xx < (nI nb) → (M (12 + 18 * xx.toNatClampNeg) 5) = 0 → Q (.inl none, M, κ))
    (k3 : ¬ (cf = true) → Q (.inr 1, M, (κ.1, κ.2.1, κ.2.2.1, kN κ, kC κ + 1, kU κ + 6)))
    : RT 80 (0, [.ref 0, .int xx], [], M, κ) Q := by
  refine w_load i_80_0 rfl rfl ?_
  refine w_getI (v := (bI cf)) i_80_1 hκ (⟨rfl, by decide⟩ : isOb 0 6) rfl (hcf) ?_
  refine w_if0 (cf = true) i_80_4 cB_ne ?_ ?_
  · intro h1
    refine w_load i_80_15 rfl rfl ?_
    have K2 : ((xx < 0) ∨ ((¬ (xx < 0)) ∧ (xx < (nI nb)) ∧ (¬ ((M (12 + 18 * xx.toNatClampNeg) 5) = 0))) ∨ ((¬ (xx < 0)) ∧ (¬ (xx < (nI nb))))) → RT 80 (39, [.ref 0, .int xx], [], M, κ) Q := by
      intro h3
      exact w_throw i_80_39 rfl hκ (by decide) rfl (Nat.le_of_ble_eq_true rfl) (k1 h1 h3)
    refine w_if0 (xx < 0) i_80_16 cI0_lt ?_ ?_
    · intro h4
      exact (by first | exact (K2 (.inl h4)) | (have K9 := K2 (.inl h4); simp only [↓if_pos h4] at K9 ⊢; exact (K9)))
    · intro h5
      refine w_load i_80_19 rfl rfl ?_
      refine w_load i_80_20 rfl rfl ?_
      refine w_getI (v := (nI nb)) i_80_21 hκ (⟨rfl, by decide⟩ : isOb 0 6) rfl (hnb) ?_
      refine w_if2n (xx < (nI nb)) i_80_24 cI_ge ?_ ?_
      · intro h6
        refine w_load i_80_27 rfl rfl ?_
        refine w_getR 3 i_80_28 hκ (⟨rfl, by decide⟩ : isOb 0 6) rfl rfl ?_
        refine w_load i_80_31 rfl rfl ?_
        refine w_aald (12 + 18 * xx.toNatClampNeg) i_80_32 hκ (⟨by decide, by decide⟩ : (kd 3 = 22 ∨ kd 3 = 23) ∧ 3 < 180) (o1 h1 h5 h6) rfl ?_
        refine w_getI (v := (M (12 + 18 * xx.toNatClampNeg) 5)) i_80_33 hκ (bl_ob (bl_b (vp_lt6 (o1 h1 h5 h6)))) rfl (rfl) ?_
        refine w_if0 ((M (12 + 18 * xx.toNatClampNeg) 5) = 0) i_80_36 cI0_eq ?_ ?_
        · intro h7
          exact w_vret i_80_47 rfl (k2 h1 h5 h6 h7)
        · intro h8
          exact (by first | exact (K2 (.inr (.inl ⟨h5, h6, h8⟩))) | (have K9 := K2 (.inr (.inl ⟨h5, h6, h8⟩)); simp only [↓if_neg h5, ↓if_pos h6, ↓if_neg h8] at K9 ⊢; exact (K9)))
      · intro h9
        exact (by first | exact (K2 (.inr (.inr ⟨h5, h9⟩))) | (have K9 := K2 (.inr (.inr ⟨h5, h9⟩)); simp only [↓if_neg h5, ↓if_neg h9] at K9 ⊢; exact (K9)))
  · intro h10
    exact w_throw i_80_7 rfl hκ (by decide) rfl (Nat.le_of_ble_eq_true rfl) (k3 h10)
theorem i_76_0 : ins 76 0 = some (.aload_n 0, 1, 0, 0, 0, 0) := rfl
theorem i_76_1 : ins 76 1 = some (.iload_n 1, 2, 1, 0, 0, 0) := rfl
theorem i_76_2 : ins 76 2 = some (.invokevirtual 159, 5, 80, 0, 2, 0) := rfl
theorem S76_0 {Q : Ou → Prop} {M : Mem} {κ : Kp} (hκ : Rd κ)  {q0 : Int32} {q1 : Int32}
    (k1 : RT 80 (0, entL 80 [.ref 0, .int q0], [], M, κ) (fun o => (∃ v M1 κ1, o = (.inl v, M1, κ1) ∧ RT 76 (5, [.ref 0, .int q0, .int q1], v.toList ++ [], M1, κ1) Q) ∨ ∃ f M1 κ1, o = (.inr f, M1, κ1) ∧ Q (.inr f, M1, κ1)))
    : RT 76 (0, [.ref 0, .int q0, .int q1], [], M, κ) Q := by
  refine w_load i_76_0 rfl rfl ?_
  refine w_load i_76_1 rfl rfl ?_
  exact w_callVT (i := _) i_76_2 ⟨by decide, by decide, by decide, rfl⟩ ⟨rfl, by decide, rfl⟩ hκ (⟨rfl, by decide⟩ : isOb 0 6) (av := [.int q0]) (rest := []) rfl rfl (Nat.le_of_ble_eq_true rfl) (k1)
theorem i_77_0 : ins 77 0 = some (.aload_n 0, 1, 0, 0, 0, 0) := rfl
theorem i_77_1 : ins 77 1 = some (.iload_n 1, 2, 1, 0, 0, 0) := rfl
theorem i_77_2 : ins 77 2 = some (.invokevirtual 159, 5, 80, 0, 2, 0) := rfl
theorem S77_0 {Q : Ou → Prop} {M : Mem} {κ : Kp} (hκ : Rd κ)  {q0 : Int32} {q1 : Int32} {q2 : Int32}
    (k1 : RT 80 (0, entL 80 [.ref 0, .int q0], [], M, κ) (fun o => (∃ v M1 κ1, o = (.inl v, M1, κ1) ∧ RT 77 (5, [.ref 0, .int q0, .int q1, .int q2], v.toList ++ [], M1, κ1) Q) ∨ ∃ f M1 κ1, o = (.inr f, M1, κ1) ∧ Q (.inr f, M1, κ1)))
    : RT 77 (0, [.ref 0, .int q0, .int q1, .int q2], [], M, κ) Q := by
  refine w_load i_77_0 rfl rfl ?_
  refine w_load i_77_1 rfl rfl ?_
  exact w_callVT (i := _) i_77_2 ⟨by decide, by decide, by decide, rfl⟩ ⟨rfl, by decide, rfl⟩ hκ (⟨rfl, by decide⟩ : isOb 0 6) (av := [.int q0]) (rest := []) rfl rfl (Nat.le_of_ble_eq_true rfl) (k1)
theorem i_78_0 : ins 78 0 = some (.aload_n 0, 1, 0, 0, 0, 0) := rfl
theorem i_78_1 : ins 78 1 = some (.iload_n 1, 2, 1, 0, 0, 0) := rfl
theorem i_78_2 : ins 78 2 = some (.invokevirtual 159, 5, 80, 0, 2, 0) := rfl
theorem S78_0 {Q : Ou → Prop} {M : Mem} {κ : Kp} (hκ : Rd κ)  {q0 : Int32} {q1 : Int32} {md : Bool}
    (k1 : RT 80 (0, entL 80 [.ref 0, .int q0], [], M, κ) (fun o => (∃ v M1 κ1, o = (.inl v, M1, κ1) ∧ RT 78 (5, [.ref 0, .int q0, .int q1, .int (bI md), UU], v.toList ++ [], M1, κ1) Q) ∨ ∃ f M1 κ1, o = (.inr f, M1, κ1) ∧ Q (.inr f, M1, κ1)))
    : RT 78 (0, [.ref 0, .int q0, .int q1, .int (bI md), UU], [], M, κ) Q := by
  refine w_load i_78_0 rfl rfl ?_
  refine w_load i_78_1 rfl rfl ?_
  exact w_callVT (i := _) i_78_2 ⟨by decide, by decide, by decide, rfl⟩ ⟨rfl, by decide, rfl⟩ hκ (⟨rfl, by decide⟩ : isOb 0 6) (av := [.int q0]) (rest := []) rfl rfl (Nat.le_of_ble_eq_true rfl) (k1)
theorem i_79_0 : ins 79 0 = some (.aload_n 0, 1, 0, 0, 0, 0) := rfl
theorem i_79_1 : ins 79 1 = some (.iload_n 1, 2, 1, 0, 0, 0) := rfl
theorem i_79_2 : ins 79 2 = some (.invokevirtual 159, 5, 80, 0, 2, 0) := rfl
theorem S79_0 {Q : Ou → Prop} {M : Mem} {κ : Kp} (hκ : Rd κ)  {q0 : Int32}
    (k1 : RT 80 (0, entL 80 [.ref 0, .int q0], [], M, κ) (fun o => (∃ v M1 κ1, o = (.inl v, M1, κ1) ∧ RT 79 (5, [.ref 0, .int q0, UU], v.toList ++ [], M1, κ1) Q) ∨ ∃ f M1 κ1, o = (.inr f, M1, κ1) ∧ Q (.inr f, M1, κ1)))
    : RT 79 (0, [.ref 0, .int q0, UU], [], M, κ) Q := by
  refine w_load i_79_0 rfl rfl ?_
  refine w_load i_79_1 rfl rfl ?_
  exact w_callVT (i := _) i_79_2 ⟨by decide, by decide, by decide, rfl⟩ ⟨rfl, by decide, rfl⟩ hκ (⟨rfl, by decide⟩ : isOb 0 6) (av := [.int q0]) (rest := []) rfl rfl (Nat.le_of_ble_eq_true rfl) (k1)
end P_52_face
