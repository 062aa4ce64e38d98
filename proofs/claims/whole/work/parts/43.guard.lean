/-! GUARDS FOR BRANCHES: what both make; the class -/
section P_43_guard
theorem i_88_0 : ins 88 0 = some (.aload_n 0, 1, 0, 0, 0, 0) := rfl
theorem i_88_1 : ins 88 1 = some (.iload_n 2, 2, 2, 0, 0, 0) := rfl
theorem i_88_2 : ins 88 2 = some (.aaload, 3, 0, 0, 0, 0) := rfl
theorem i_88_3 : ins 88 3 = some (.astore_n 3, 4, 3, 0, 0, 0) := rfl
theorem i_88_4 : ins 88 4 = some (.aload_n 0, 5, 0, 0, 0, 0) := rfl
theorem i_88_5 : ins 88 5 = some (.aload_n 3, 6, 3, 0, 0, 0) := rfl
theorem i_88_6 : ins 88 6 = some (.getfield 178, 9, 0, 2, 0, 0) := rfl
theorem i_88_9 : ins 88 9 = some (.aaload, 10, 0, 0, 0, 0) := rfl
theorem i_88_10 : ins 88 10 = some (.astore 4, 12, 4, 0, 0, 0) := rfl
theorem i_88_12 : ins 88 12 = some (.aload_n 0, 13, 0, 0, 0, 0) := rfl
theorem i_88_13 : ins 88 13 = some (.aload_n 3, 14, 3, 0, 0, 0) := rfl
theorem i_88_14 : ins 88 14 = some (.getfield 218, 17, 0, 3, 0, 0) := rfl
theorem i_88_17 : ins 88 17 = some (.aaload, 18, 0, 0, 0, 0) := rfl
theorem i_88_18 : ins 88 18 = some (.astore 5, 20, 5, 0, 0, 0) := rfl
theorem i_88_20 : ins 88 20 = some (.aload 4, 22, 4, 0, 0, 0) := rfl
theorem i_88_22 : ins 88 22 = some (.getfield 175, 25, 0, 0, 0, 0) := rfl
theorem i_88_25 : ins 88 25 = some (.iconst 1, 26, 0, 0, 0, 1) := rfl
theorem i_88_26 : ins 88 26 = some (.if_icmp .ne 20, 29, 46, 0, 0, 0) := rfl
theorem i_88_29 : ins 88 29 = some (.aload_n 0, 30, 0, 0, 0, 0) := rfl
theorem i_88_30 : ins 88 30 = some (.iload_n 1, 31, 1, 0, 0, 0) := rfl
theorem i_88_31 : ins 88 31 = some (.iload_n 2, 32, 2, 0, 0, 0) := rfl
theorem i_88_32 : ins 88 32 = some (.aload_n 3, 33, 3, 0, 0, 0) := rfl
theorem i_88_33 : ins 88 33 = some (.getfield 178, 36, 0, 2, 0, 0) := rfl
theorem i_88_36 : ins 88 36 = some (.invokestatic 225, 39, 89, 1, 4, 0) := rfl
theorem i_88_39 : ins 88 39 = some (.ifCond .eq 7, 42, 46, 0, 0, 0) := rfl
theorem i_88_42 : ins 88 42 = some (.iconst 1, 43, 0, 0, 0, 1) := rfl
theorem i_88_43 : ins 88 43 = some (.goto 4, 46, 47, 0, 0, 0) := rfl
theorem i_88_46 : ins 88 46 = some (.iconst 0, 47, 0, 0, 0, 0) := rfl
theorem i_88_47 : ins 88 47 = some (.istore 6, 49, 6, 0, 0, 0) := rfl
theorem i_88_49 : ins 88 49 = some (.aload 5, 51, 5, 0, 0, 0) := rfl
theorem i_88_51 : ins 88 51 = some (.getfield 175, 54, 0, 0, 0, 0) := rfl
theorem i_88_54 : ins 88 54 = some (.iconst 1, 55, 0, 0, 0, 1) := rfl
theorem i_88_55 : ins 88 55 = some (.if_icmp .ne 20, 58, 75, 0, 0, 0) := rfl
theorem i_88_58 : ins 88 58 = some (.aload_n 0, 59, 0, 0, 0, 0) := rfl
theorem i_88_59 : ins 88 59 = some (.iload_n 1, 60, 1, 0, 0, 0) := rfl
theorem i_88_60 : ins 88 60 = some (.iload_n 2, 61, 2, 0, 0, 0) := rfl
theorem i_88_61 : ins 88 61 = some (.aload_n 3, 62, 3, 0, 0, 0) := rfl
theorem i_88_62 : ins 88 62 = some (.getfield 218, 65, 0, 3, 0, 0) := rfl
theorem i_88_65 : ins 88 65 = some (.invokestatic 225, 68, 89, 1, 4, 0) := rfl
theorem i_88_68 : ins 88 68 = some (.ifCond .eq 7, 71, 75, 0, 0, 0) := rfl
theorem i_88_71 : ins 88 71 = some (.iconst 1, 72, 0, 0, 0, 1) := rfl
theorem i_88_72 : ins 88 72 = some (.goto 4, 75, 76, 0, 0, 0) := rfl
theorem i_88_75 : ins 88 75 = some (.iconst 0, 76, 0, 0, 0, 0) := rfl
theorem i_88_76 : ins 88 76 = some (.istore 7, 78, 7, 0, 0, 0) := rfl
theorem S88_0 {Q : Ou → Prop} {M : Mem} {κ : Kp} (hκ : Rd κ) {nb x t u : Nat} (hx : x < nb) (ht : t < nb) (hu : u < nb) (hnb6 : nb ≤ 6) {et eu : Int32} (h2x : M (12 + 18 * x) 2 = nI t) (h3x : M (12 + 18 * x) 3 = nI u) (h0t : M (12 + 18 * t) 0 = et) (h0u : M (12 + 18 * u) 0 = eu)  {r_65 : Bool} {r_36 : Bool}
    (o1 : eu = 1 → Run 89 (0, entL 89 [.ref 3, .int (nI nb), .int (nI x), .int (nI u)], [], M, κ) (.inl (some (.int (bI r_65))), M, κ))
    (o2 : et = 1 → Run 89 (0, entL 89 [.ref 3, .int (nI nb), .int (nI x), .int (nI t)], [], M, κ) (.inl (some (.int (bI r_36))), M, κ))
    (k1 : RT 88 (78, [UU, UU, UU, .ref (12 + 18 * x), .ref (12 + 18 * t), .ref (12 + 18 * u), .int (bI (if et = 1 then (if r_36 = true then true else false) else false)), .int (bI (if eu = 1 then (if r_65 = true then true else false) else false)), UU], [], M, κ) Q)
    : RT 88 (0, [.ref 3, .int (nI nb), .int (nI x), UU, UU, UU, UU, UU, UU], [], M, κ) Q := by
  refine w_load i_88_0 rfl rfl ?_
  refine w_load i_88_1 rfl rfl ?_
  refine w_aaldN (e := x) (12 + 18 * x) i_88_2 hκ (⟨by decide, by decide⟩ : (kd 3 = 22 ∨ kd 3 = 23) ∧ 3 < 180) (by omega) rfl ?_
  refine w_store (l1 := [.ref 3, .int (nI nb), .int (nI x), .ref (12 + 18 * x), UU, UU, UU, UU, UU]) i_88_3 rfl (Nat.le_of_ble_eq_true rfl) rfl ?_
  refine w_load i_88_4 rfl rfl ?_
  refine w_load i_88_5 rfl rfl ?_
  refine w_getI (v := (nI t)) i_88_6 hκ (bl_ob (bl_b (by omega : x < 6))) rfl (h2x) ?_
  refine w_aaldN (e := t) (12 + 18 * t) i_88_9 hκ (⟨by decide, by decide⟩ : (kd 3 = 22 ∨ kd 3 = 23) ∧ 3 < 180) (by omega) rfl ?_
  refine w_store (l1 := [.ref 3, .int (nI nb), .int (nI x), .ref (12 + 18 * x), .ref (12 + 18 * t), UU, UU, UU, UU]) i_88_10 rfl (Nat.le_of_ble_eq_true rfl) rfl ?_
  refine w_load i_88_12 rfl rfl ?_
  refine w_load i_88_13 rfl rfl ?_
  refine w_getI (v := (nI u)) i_88_14 hκ (bl_ob (bl_b (by omega : x < 6))) rfl (h3x) ?_
  refine w_aaldN (e := u) (12 + 18 * u) i_88_17 hκ (⟨by decide, by decide⟩ : (kd 3 = 22 ∨ kd 3 = 23) ∧ 3 < 180) (by omega) rfl ?_
  refine w_store (l1 := [.ref 3, .int (nI nb), .int (nI x), .ref (12 + 18 * x), .ref (12 + 18 * t), .ref (12 + 18 * u), UU, UU, UU]) i_88_18 rfl (Nat.le_of_ble_eq_true rfl) rfl ?_
  refine w_load i_88_20 rfl rfl ?_
  refine w_getI (v := et) i_88_22 hκ (bl_ob (bl_b (by omega : t < 6))) rfl (h0t) ?_
  refine w_push i_88_25 rfl ?_
  have K1 : RT 88 (47, [.ref 3, .int (nI nb), .int (nI x), .ref (12 + 18 * x), .ref (12 + 18 * t), .ref (12 + 18 * u), UU, UU, UU], [.int (bI (if et = 1 then (if r_36 = true then true else false) else false))], M, κ) Q := by
    refine w_store (l1 := [.ref 3, .int (nI nb), .int (nI x), .ref (12 + 18 * x), .ref (12 + 18 * t), .ref (12 + 18 * u), .int (bI (if et = 1 then (if r_36 = true then true else false) else false)), UU, UU]) i_88_47 rfl (Nat.le_of_ble_eq_true rfl) rfl ?_
    refine w_load i_88_49 rfl rfl ?_
    refine w_getI (v := eu) i_88_51 hκ (bl_ob (bl_b (by omega : u < 6))) rfl (h0u) ?_
    refine w_push i_88_54 rfl ?_
    have K2 : RT 88 (76, [.ref 3, .int (nI nb), .int (nI x), .ref (12 + 18 * x), .ref (12 + 18 * t), .ref (12 + 18 * u), .int (bI (if et = 1 then (if r_36 = true then true else false) else false)), UU, UU], [.int (bI (if eu = 1 then (if r_65 = true then true else false) else false))], M, κ) Q := by
      refine w_store (l1 := [.ref 3, .int (nI nb), .int (nI x), .ref (12 + 18 * x), .ref (12 + 18 * t), .ref (12 + 18 * u), .int (bI (if et = 1 then (if r_36 = true then true else false) else false)), .int (bI (if eu = 1 then (if r_65 = true then true else false) else false)), UU]) i_88_76 rfl (Nat.le_of_ble_eq_true rfl) rfl ?_
      exact w_weak (lle_u (lle_u (lle_u (lle_s (lle_s (lle_s (lle_s (lle_s (lle_s lle_n))))))))) (k1)
    refine w_if2n (eu = 1) i_88_55 cI_ne ?_ ?_
    · intro h3
      refine w_load i_88_58 rfl rfl ?_
      refine w_load i_88_59 rfl rfl ?_
      refine w_load i_88_60 rfl rfl ?_
      refine w_load i_88_61 rfl rfl ?_
      refine w_getI (v := (nI u)) i_88_62 hκ (bl_ob (bl_b (by omega : x < 6))) rfl (h3x) ?_
      refine w_callS i_88_65 ⟨by decide, by decide, by decide, rfl, rfl⟩ (av := [.ref 3, .int (nI nb), .int (nI x), .int (nI u)]) (rest := []) rfl rfl (Nat.le_of_ble_eq_true rfl) (v := some (.int (bI r_65))) (o1 h3) ?_
      refine w_if0n (r_65 = true) i_88_68 cB_eq ?_ ?_
      · intro h4
        refine w_push i_88_71 rfl ?_
        refine w_goto i_88_72 ?_
        exact (by first | exact (K2) | (have K9 := K2; simp only [↓if_pos h3, ↓if_pos h4] at K9 ⊢; exact (K9)))
      · intro h5
        refine w_push i_88_75 rfl ?_
        exact (by first | exact (K2) | (have K9 := K2; simp only [↓if_pos h3, ↓if_neg h5] at K9 ⊢; exact (K9)))
    · intro h6
      refine w_push i_88_75 rfl ?_
      exact (by first | exact (K2) | (have K9 := K2; simp only [↓if_neg h6] at K9 ⊢; exact (K9)))
  refine w_if2n (et = 1) i_88_26 cI_ne ?_ ?_
  · intro h7
    refine w_load i_88_29 rfl rfl ?_
    refine w_load i_88_30 rfl rfl ?_
    refine w_load i_88_31 rfl rfl ?_
    refine w_load i_88_32 rfl rfl ?_
    refine w_getI (v := (nI t)) i_88_33 hκ (bl_ob (bl_b (by omega : x < 6))) rfl (h2x) ?_
    refine w_callS i_88_36 ⟨by decide, by decide, by decide, rfl, rfl⟩ (av := [.ref 3, .int (nI nb), .int (nI x), .int (nI t)]) (rest := []) rfl rfl (Nat.le_of_ble_eq_true rfl) (v := some (.int (bI r_36))) (o2 h7) ?_
    refine w_if0n (r_36 = true) i_88_39 cB_eq ?_ ?_
    · intro h8
      refine w_push i_88_42 rfl ?_
      refine w_goto i_88_43 ?_
      exact (by first | exact (K1) | (have K9 := K1; simp only [↓if_pos h7, ↓if_pos h8] at K9 ⊢; exact (K9)))
    · intro h9
      refine w_push i_88_46 rfl ?_
      exact (by first | exact (K1) | (have K9 := K1; simp only [↓if_pos h7, ↓if_neg h9] at K9 ⊢; exact (K9)))
  · intro h10
    refine w_push i_88_46 rfl ?_
    exact (by first | exact (K1) | (have K9 := K1; simp only [↓if_neg h10] at K9 ⊢; exact (K9)))
theorem i_88_78 : ins 88 78 = some (.iload 6, 80, 6, 0, 0, 0) := rfl
theorem i_88_80 : ins 88 80 = some (.ifCond .eq 82, 83, 162, 0, 0, 0) := rfl
theorem i_88_83 : ins 88 83 = some (.iload 7, 85, 7, 0, 0, 0) := rfl
theorem i_88_85 : ins 88 85 = some (.ifCond .eq 77, 88, 162, 0, 0, 0) := rfl
theorem i_88_88 : ins 88 88 = some (.aload 4, 90, 4, 0, 0, 0) := rfl
theorem i_88_90 : ins 88 90 = some (.getfield 178, 93, 0, 2, 0, 0) := rfl
theorem i_88_93 : ins 88 93 = some (.aload 5, 95, 5, 0, 0, 0) := rfl
theorem i_88_95 : ins 88 95 = some (.getfield 178, 98, 0, 2, 0, 0) := rfl
theorem i_88_98 : ins 88 98 = some (.if_icmp .ne 64, 101, 162, 0, 0, 0) := rfl
theorem i_88_101 : ins 88 101 = some (.aload_n 3, 102, 3, 0, 0, 0) := rfl
theorem i_88_102 : ins 88 102 = some (.getfield 101, 105, 0, 4, 0, 0) := rfl
theorem i_88_105 : ins 88 105 = some (.aload 4, 107, 4, 0, 0, 0) := rfl
theorem i_88_107 : ins 88 107 = some (.getfield 101, 110, 0, 4, 0, 0) := rfl
theorem i_88_110 : ins 88 110 = some (.iadd, 111, 0, 0, 0, 0) := rfl
theorem i_88_111 : ins 88 111 = some (.aload 5, 113, 5, 0, 0, 0) := rfl
theorem i_88_113 : ins 88 113 = some (.getfield 101, 116, 0, 4, 0, 0) := rfl
theorem i_88_116 : ins 88 116 = some (.iadd, 117, 0, 0, 0, 0) := rfl
theorem i_88_117 : ins 88 117 = some (.bipush 10, 119, 0, 0, 0, 10) := rfl
theorem i_88_119 : ins 88 119 = some (.if_icmp .gt 43, 122, 162, 0, 0, 0) := rfl
theorem i_88_122 : ins 88 122 = some (.aload 4, 124, 4, 0, 0, 0) := rfl
theorem i_88_124 : ins 88 124 = some (.getfield 178, 127, 0, 2, 0, 0) := rfl
theorem i_88_127 : ins 88 127 = some (.istore 8, 129, 8, 0, 0, 0) := rfl
theorem i_88_129 : ins 88 129 = some (.aload_n 3, 130, 3, 0, 0, 0) := rfl
theorem i_88_130 : ins 88 130 = some (.aload 4, 132, 4, 0, 0, 0) := rfl
theorem i_88_132 : ins 88 132 = some (.iconst 1, 133, 0, 0, 0, 1) := rfl
theorem i_88_133 : ins 88 133 = some (.aload_n 3, 134, 3, 0, 0, 0) := rfl
theorem i_88_134 : ins 88 134 = some (.getfield 212, 137, 0, 1, 0, 0) := rfl
theorem i_88_137 : ins 88 137 = some (.iadd, 138, 0, 0, 0, 0) := rfl
theorem i_88_138 : ins 88 138 = some (.invokevirtual 229, 141, 4, 0, 3, 0) := rfl
theorem i_88_162 : ins 88 162 = some (.iload 6, 164, 6, 0, 0, 0) := rfl
theorem i_88_164 : ins 88 164 = some (.ifCond .eq 53, 167, 217, 0, 0, 0) := rfl
theorem i_88_167 : ins 88 167 = some (.aload 4, 169, 4, 0, 0, 0) := rfl
theorem i_88_169 : ins 88 169 = some (.getfield 178, 172, 0, 2, 0, 0) := rfl
theorem i_88_172 : ins 88 172 = some (.aload_n 3, 173, 3, 0, 0, 0) := rfl
theorem i_88_173 : ins 88 173 = some (.getfield 218, 176, 0, 3, 0, 0) := rfl
theorem i_88_176 : ins 88 176 = some (.if_icmp .ne 41, 179, 217, 0, 0, 0) := rfl
theorem i_88_179 : ins 88 179 = some (.aload_n 3, 180, 3, 0, 0, 0) := rfl
theorem i_88_180 : ins 88 180 = some (.getfield 101, 183, 0, 4, 0, 0) := rfl
theorem i_88_183 : ins 88 183 = some (.aload 4, 185, 4, 0, 0, 0) := rfl
theorem i_88_185 : ins 88 185 = some (.getfield 101, 188, 0, 4, 0, 0) := rfl
theorem i_88_188 : ins 88 188 = some (.iadd, 189, 0, 0, 0, 0) := rfl
theorem i_88_189 : ins 88 189 = some (.bipush 10, 191, 0, 0, 0, 10) := rfl
theorem i_88_191 : ins 88 191 = some (.if_icmp .gt 26, 194, 217, 0, 0, 0) := rfl
theorem i_88_194 : ins 88 194 = some (.aload_n 3, 195, 3, 0, 0, 0) := rfl
theorem i_88_195 : ins 88 195 = some (.aload 4, 197, 4, 0, 0, 0) := rfl
theorem i_88_197 : ins 88 197 = some (.iconst 1, 198, 0, 0, 0, 1) := rfl
theorem i_88_198 : ins 88 198 = some (.aload_n 3, 199, 3, 0, 0, 0) := rfl
theorem i_88_199 : ins 88 199 = some (.getfield 212, 202, 0, 1, 0, 0) := rfl
theorem i_88_202 : ins 88 202 = some (.iadd, 203, 0, 0, 0, 0) := rfl
theorem i_88_203 : ins 88 203 = some (.invokevirtual 229, 206, 4, 0, 3, 0) := rfl
theorem i_88_217 : ins 88 217 = some (.iload 7, 219, 7, 0, 0, 0) := rfl
theorem i_88_219 : ins 88 219 = some (.ifCond .eq 50, 222, 269, 0, 0, 0) := rfl
theorem i_88_222 : ins 88 222 = some (.aload 5, 224, 5, 0, 0, 0) := rfl
theorem i_88_224 : ins 88 224 = some (.getfield 178, 227, 0, 2, 0, 0) := rfl
theorem i_88_227 : ins 88 227 = some (.aload_n 3, 228, 3, 0, 0, 0) := rfl
theorem i_88_228 : ins 88 228 = some (.getfield 178, 231, 0, 2, 0, 0) := rfl
theorem i_88_231 : ins 88 231 = some (.if_icmp .ne 38, 234, 269, 0, 0, 0) := rfl
theorem i_88_234 : ins 88 234 = some (.aload_n 3, 235, 3, 0, 0, 0) := rfl
theorem i_88_235 : ins 88 235 = some (.getfield 101, 238, 0, 4, 0, 0) := rfl
theorem i_88_238 : ins 88 238 = some (.aload 5, 240, 5, 0, 0, 0) := rfl
theorem i_88_240 : ins 88 240 = some (.getfield 101, 243, 0, 4, 0, 0) := rfl
theorem i_88_243 : ins 88 243 = some (.iadd, 244, 0, 0, 0, 0) := rfl
theorem i_88_244 : ins 88 244 = some (.bipush 10, 246, 0, 0, 0, 10) := rfl
theorem i_88_246 : ins 88 246 = some (.if_icmp .gt 23, 249, 269, 0, 0, 0) := rfl
theorem i_88_249 : ins 88 249 = some (.aload_n 3, 250, 3, 0, 0, 0) := rfl
theorem i_88_250 : ins 88 250 = some (.aload 5, 252, 5, 0, 0, 0) := rfl
theorem i_88_252 : ins 88 252 = some (.iconst (-1), 253, 0, 0, 0, (-1)) := rfl
theorem i_88_253 : ins 88 253 = some (.aload_n 3, 254, 3, 0, 0, 0) := rfl
theorem i_88_254 : ins 88 254 = some (.getfield 212, 257, 0, 1, 0, 0) := rfl
theorem i_88_257 : ins 88 257 = some (.isub, 258, 0, 0, 0, 0) := rfl
theorem i_88_258 : ins 88 258 = some (.invokevirtual 229, 261, 4, 0, 3, 0) := rfl
theorem i_88_269 : ins 88 269 = some (.return_, 270, 0, 0, 0, 0) := rfl
theorem S88_78 {Q : Ou → Prop} {M : Mem} {κ : Kp} (hκ : Rd κ) {nb x t u : Nat} (hx : x < nb) (ht : t < nb) (hu : u < nb) (hnb6 : nb ≤ 6) {cx ct cu tt tu : Nat} {vx : Int32} (hcx : cx ≤ 10) (hct : ct ≤ 10) (hcu : cu ≤ 10) (htt : tt ≤ 10) (htu : tu ≤ 10) (h1x : M (12 + 18 * x) 1 = vx) (h2x : M (12 + 18 * x) 2 = nI t) (h3x : M (12 + 18 * x) 3 = nI u) (h2t : M (12 + 18 * t) 2 = nI tt) (h2u : M (12 + 18 * u) 2 = nI tu) (h4x : M (12 + 18 * x) 4 = nI cx) (h4t : M (12 + 18 * t) 4 = nI ct) (h4u : M (12 + 18 * u) 4 = nI cu) {ty : Bool} {tn : Bool}
    (k1 : ty = true → tn = true → tt = tu → 10 < ((cx + ct) + cu) → RT 88 (162, [UU, UU, UU, .ref (12 + 18 * x), .ref (12 + 18 * t), .ref (12 + 18 * u), .int (bI ty), .int (bI tn), UU], [], M, κ) Q)
    (k2 : ty = true → tn = true → tt = tu → ¬ (10 < ((cx + ct) + cu)) → RT 4 (0, entL 4 [.ref (12 + 18 * x), .ref (12 + 18 * t), .int (1 + vx)], [], M, κ) (fun o => ∃ v M1 κ1, o = (.inl v, M1, κ1) ∧ RT 88 (141, [UU, UU, UU, .ref (12 + 18 * x), .ref (12 + 18 * t), .ref (12 + 18 * u), .int (bI ty), .int (bI tn), .int (nI tt)], v.toList ++ [], M1, κ1) Q))
    (k3 : ty = true → tn = true → ¬ (tt = tu) → RT 88 (162, [UU, UU, UU, .ref (12 + 18 * x), .ref (12 + 18 * t), .ref (12 + 18 * u), .int (bI ty), .int (bI tn), UU], [], M, κ) Q)
    (k4 : ty = true → ¬ (tn = true) → RT 88 (162, [UU, UU, UU, .ref (12 + 18 * x), .ref (12 + 18 * t), .ref (12 + 18 * u), .int (bI ty), .int (bI tn), UU], [], M, κ) Q)
    (k5 : ¬ (ty = true) → RT 88 (162, [UU, UU, UU, .ref (12 + 18 * x), .ref (12 + 18 * t), .ref (12 + 18 * u), .int (bI ty), .int (bI tn), UU], [], M, κ) Q)
    : RT 88 (78, [UU, UU, UU, .ref (12 + 18 * x), .ref (12 + 18 * t), .ref (12 + 18 * u), .int (bI ty), .int (bI tn), UU], [], M, κ) Q := by
  refine w_load i_88_78 rfl rfl ?_
  refine w_if0n (ty = true) i_88_80 cB_eq ?_ ?_
  · intro h1
    refine w_load i_88_83 rfl rfl ?_
    refine w_if0n (tn = true) i_88_85 cB_eq ?_ ?_
    · intro h2
      refine w_load i_88_88 rfl rfl ?_
      refine w_getI (v := (nI tt)) i_88_90 hκ (bl_ob (bl_b (by omega : t < 6))) rfl (h2t) ?_
      refine w_load i_88_93 rfl rfl ?_
      refine w_getI (v := (nI tu)) i_88_95 hκ (bl_ob (bl_b (by omega : u < 6))) rfl (h2u) ?_
      refine w_if2n (tt = tu) i_88_98 (cN_ne (a := tt) (b := tu) (by omega) (by omega)) ?_ ?_
      · intro h3
        refine w_load i_88_101 rfl rfl ?_
        refine w_getI (v := (nI cx)) i_88_102 hκ (bl_ob (bl_b (by omega : x < 6))) rfl (h4x) ?_
        refine w_load i_88_105 rfl rfl ?_
        refine w_getI (v := (nI ct)) i_88_107 hκ (bl_ob (bl_b (by omega : t < 6))) rfl (h4t) ?_
        refine w_bin (w := (nI (cx + ct))) i_88_110 rfl (nI_add cx ct) ?_
        refine w_load i_88_111 rfl rfl ?_
        refine w_getI (v := (nI cu)) i_88_113 hκ (bl_ob (bl_b (by omega : u < 6))) rfl (h4u) ?_
        refine w_bin (w := (nI ((cx + ct) + cu))) i_88_116 rfl (nI_add (cx + ct) cu) ?_
        refine w_push i_88_117 rfl ?_
        refine w_if2 (10 < ((cx + ct) + cu)) i_88_119 (cN_gt (a := ((cx + ct) + cu)) (b := 10) (by omega) (by omega)) ?_ ?_
        · intro h4
          exact (k1 h1 h2 h3 h4)
        · intro h5
          refine w_load i_88_122 rfl rfl ?_
          refine w_getI (v := (nI tt)) i_88_124 hκ (bl_ob (bl_b (by omega : t < 6))) rfl (h2t) ?_
          refine w_store (l1 := [UU, UU, UU, .ref (12 + 18 * x), .ref (12 + 18 * t), .ref (12 + 18 * u), .int (bI ty), .int (bI tn), .int (nI tt)]) i_88_127 rfl (Nat.le_of_ble_eq_true rfl) rfl ?_
          refine w_load i_88_129 rfl rfl ?_
          refine w_load i_88_130 rfl rfl ?_
          refine w_push i_88_132 rfl ?_
          refine w_load i_88_133 rfl rfl ?_
          refine w_getI (v := vx) i_88_134 hκ (bl_ob (bl_b (by omega : x < 6))) rfl (h1x) ?_
          refine w_bin (w := (1 + vx)) i_88_137 rfl rfl ?_
          exact w_callVI (i := _) i_88_138 ⟨by decide, by decide, by decide, rfl⟩ hκ (bl_ob (bl_b (by omega : x < 6))) (av := [.ref (12 + 18 * t), .int (1 + vx)]) (rest := []) rfl rfl (Nat.le_of_ble_eq_true rfl) (k2 h1 h2 h3 h5)
      · intro h6
        exact (k3 h1 h2 h6)
    · intro h7
      exact (k4 h1 h7)
  · intro h8
    exact (k5 h8)
theorem S88_162 {Q : Ou → Prop} {M : Mem} {κ : Kp} (hκ : Rd κ) {nb x t u : Nat} (hx : x < nb) (ht : t < nb) (hu : u < nb) (hnb6 : nb ≤ 6) {cx ct cu tt tu : Nat} {vx : Int32} (hcx : cx ≤ 10) (hct : ct ≤ 10) (hcu : cu ≤ 10) (htt : tt ≤ 10) (htu : tu ≤ 10) (h1x : M (12 + 18 * x) 1 = vx) (h2x : M (12 + 18 * x) 2 = nI t) (h3x : M (12 + 18 * x) 3 = nI u) (h2t : M (12 + 18 * t) 2 = nI tt) (h2u : M (12 + 18 * u) 2 = nI tu) (h4x : M (12 + 18 * x) 4 = nI cx) (h4t : M (12 + 18 * t) 4 = nI ct) (h4u : M (12 + 18 * u) 4 = nI cu) {ty : Bool} {tn : Bool}
    (k1 : ty = true → tt = u → 10 < (cx + ct) → RT 88 (217, [UU, UU, UU, .ref (12 + 18 * x), UU, .ref (12 + 18 * u), UU, .int (bI tn), UU], [], M, κ) Q)
    (k2 : ty = true → tt = u → ¬ (10 < (cx + ct)) → RT 4 (0, entL 4 [.ref (12 + 18 * x), .ref (12 + 18 * t), .int (1 + vx)], [], M, κ) (fun o => ∃ v M1 κ1, o = (.inl v, M1, κ1) ∧ RT 88 (206, [UU, UU, UU, .ref (12 + 18 * x), .ref (12 + 18 * t), .ref (12 + 18 * u), .int (bI ty), .int (bI tn), UU], v.toList ++ [], M1, κ1) Q))
    (k3 : ty = true → ¬ (tt = u) → RT 88 (217, [UU, UU, UU, .ref (12 + 18 * x), UU, .ref (12 + 18 * u), UU, .int (bI tn), UU], [], M, κ) Q)
    (k4 : ¬ (ty = true) → RT 88 (217, [UU, UU, UU, .ref (12 + 18 * x), UU, .ref (12 + 18 * u), UU, .int (bI tn), UU], [], M, κ) Q)
    : RT 88 (162, [UU, UU, UU, .ref (12 + 18 * x), .ref (12 + 18 * t), .ref (12 + 18 * u), .int (bI ty), .int (bI tn), UU], [], M, κ) Q := by
  refine w_load i_88_162 rfl rfl ?_
  refine w_if0n (ty = true) i_88_164 cB_eq ?_ ?_
  · intro h1
    refine w_load i_88_167 rfl rfl ?_
    refine w_getI (v := (nI tt)) i_88_169 hκ (bl_ob (bl_b (by omega : t < 6))) rfl (h2t) ?_
    refine w_load i_88_172 rfl rfl ?_
    refine w_getI (v := (nI u)) i_88_173 hκ (bl_ob (bl_b (by omega : x < 6))) rfl (h3x) ?_
    refine w_if2n (tt = u) i_88_176 (cN_ne (a := tt) (b := u) (by omega) (by omega)) ?_ ?_
    · intro h2
      refine w_load i_88_179 rfl rfl ?_
      refine w_getI (v := (nI cx)) i_88_180 hκ (bl_ob (bl_b (by omega : x < 6))) rfl (h4x) ?_
      refine w_load i_88_183 rfl rfl ?_
      refine w_getI (v := (nI ct)) i_88_185 hκ (bl_ob (bl_b (by omega : t < 6))) rfl (h4t) ?_
      refine w_bin (w := (nI (cx + ct))) i_88_188 rfl (nI_add cx ct) ?_
      refine w_push i_88_189 rfl ?_
      refine w_if2 (10 < (cx + ct)) i_88_191 (cN_gt (a := (cx + ct)) (b := 10) (by omega) (by omega)) ?_ ?_
      · intro h3
        exact w_weak (lle_s (lle_s (lle_s (lle_s (lle_u (lle_s (lle_u (lle_s (lle_s lle_n))))))))) (k1 h1 h2 h3)
      · intro h4
        refine w_load i_88_194 rfl rfl ?_
        refine w_load i_88_195 rfl rfl ?_
        refine w_push i_88_197 rfl ?_
        refine w_load i_88_198 rfl rfl ?_
        refine w_getI (v := vx) i_88_199 hκ (bl_ob (bl_b (by omega : x < 6))) rfl (h1x) ?_
        refine w_bin (w := (1 + vx)) i_88_202 rfl rfl ?_
        exact w_callVI (i := _) i_88_203 ⟨by decide, by decide, by decide, rfl⟩ hκ (bl_ob (bl_b (by omega : x < 6))) (av := [.ref (12 + 18 * t), .int (1 + vx)]) (rest := []) rfl rfl (Nat.le_of_ble_eq_true rfl) (k2 h1 h2 h4)
    · intro h5
      exact w_weak (lle_s (lle_s (lle_s (lle_s (lle_u (lle_s (lle_u (lle_s (lle_s lle_n))))))))) (k3 h1 h5)
  · intro h6
    exact w_weak (lle_s (lle_s (lle_s (lle_s (lle_u (lle_s (lle_u (lle_s (lle_s lle_n))))))))) (k4 h6)
theorem S88_217 {Q : Ou → Prop} {M : Mem} {κ : Kp} (hκ : Rd κ) {nb x t u : Nat} (hx : x < nb) (ht : t < nb) (hu : u < nb) (hnb6 : nb ≤ 6) {cx ct cu tt tu : Nat} {vx : Int32} (hcx : cx ≤ 10) (hct : ct ≤ 10) (hcu : cu ≤ 10) (htt : tt ≤ 10) (htu : tu ≤ 10) (h1x : M (12 + 18 * x) 1 = vx) (h2x : M (12 + 18 * x) 2 = nI t) (h3x : M (12 + 18 * x) 3 = nI u) (h2t : M (12 + 18 * t) 2 = nI tt) (h2u : M (12 + 18 * u) 2 = nI tu) (h4x : M (12 + 18 * x) 4 = nI cx) (h4t : M (12 + 18 * t) 4 = nI ct) (h4u : M (12 + 18 * u) 4 = nI cu) {tn : Bool}
    (k1 : (((tn = true) ∧ (tu = t) ∧ (10 < (cx + cu))) ∨ ((tn = true) ∧ (¬ (tu = t))) ∨ (¬ (tn = true))) → Q (.inl none, M, κ))
    (k2 : tn = true → tu = t → ¬ (10 < (cx + cu)) → RT 4 (0, entL 4 [.ref (12 + 18 * x), .ref (12 + 18 * u), .int ((-1) - vx)], [], M, κ) (fun o => ∃ v M1 κ1, o = (.inl v, M1, κ1) ∧ RT 88 (261, [UU, UU, UU, .ref (12 + 18 * x), UU, .ref (12 + 18 * u), UU, .int (bI tn), UU], v.toList ++ [], M1, κ1) Q))
    : RT 88 (217, [UU, UU, UU, .ref (12 + 18 * x), UU, .ref (12 + 18 * u), UU, .int (bI tn), UU], [], M, κ) Q := by
  refine w_load i_88_217 rfl rfl ?_
  have K1 : (((tn = true) ∧ (tu = t) ∧ (10 < (cx + cu))) ∨ ((tn = true) ∧ (¬ (tu = t))) ∨ (¬ (tn = true))) → RT 88 (269, [UU, UU, UU, .ref (12 + 18 * x), UU, .ref (12 + 18 * u), UU, .int (bI tn), UU], [], M, κ) Q := by
    intro h2
    exact w_vret i_88_269 rfl (k1 h2)
  refine w_if0n (tn = true) i_88_219 cB_eq ?_ ?_
  · intro h3
    refine w_load i_88_222 rfl rfl ?_
    refine w_getI (v := (nI tu)) i_88_224 hκ (bl_ob (bl_b (by omega : u < 6))) rfl (h2u) ?_
    refine w_load i_88_227 rfl rfl ?_
    refine w_getI (v := (nI t)) i_88_228 hκ (bl_ob (bl_b (by omega : x < 6))) rfl (h2x) ?_
    refine w_if2n (tu = t) i_88_231 (cN_ne (a := tu) (b := t) (by omega) (by omega)) ?_ ?_
    · intro h4
      refine w_load i_88_234 rfl rfl ?_
      refine w_getI (v := (nI cx)) i_88_235 hκ (bl_ob (bl_b (by omega : x < 6))) rfl (h4x) ?_
      refine w_load i_88_238 rfl rfl ?_
      refine w_getI (v := (nI cu)) i_88_240 hκ (bl_ob (bl_b (by omega : u < 6))) rfl (h4u) ?_
      refine w_bin (w := (nI (cx + cu))) i_88_243 rfl (nI_add cx cu) ?_
      refine w_push i_88_244 rfl ?_
      refine w_if2 (10 < (cx + cu)) i_88_246 (cN_gt (a := (cx + cu)) (b := 10) (by omega) (by omega)) ?_ ?_
      · intro h5
        exact (by first | exact (K1 (.inl ⟨h3, h4, h5⟩)) | (have K9 := K1 (.inl ⟨h3, h4, h5⟩); simp only [↓if_pos h3, ↓if_pos h4, ↓if_pos h5] at K9 ⊢; exact (K9)))
      · intro h6
        refine w_load i_88_249 rfl rfl ?_
        refine w_load i_88_250 rfl rfl ?_
        refine w_push i_88_252 rfl ?_
        refine w_load i_88_253 rfl rfl ?_
        refine w_getI (v := vx) i_88_254 hκ (bl_ob (bl_b (by omega : x < 6))) rfl (h1x) ?_
        refine w_bin (w := ((-1) - vx)) i_88_257 rfl rfl ?_
        exact w_callVI (i := _) i_88_258 ⟨by decide, by decide, by decide, rfl⟩ hκ (bl_ob (bl_b (by omega : x < 6))) (av := [.ref (12 + 18 * u), .int ((-1) - vx)]) (rest := []) rfl rfl (Nat.le_of_ble_eq_true rfl) (k2 h3 h4 h6)
    · intro h7
      exact (by first | exact (K1 (.inr (.inl ⟨h3, h7⟩))) | (have K9 := K1 (.inr (.inl ⟨h3, h7⟩)); simp only [↓if_pos h3, ↓if_neg h7] at K9 ⊢; exact (K9)))
  · intro h8
    exact (by first | exact (K1 (.inr (.inr h8))) | (have K9 := K1 (.inr (.inr h8)); simp only [↓if_neg h8] at K9 ⊢; exact (K9)))
theorem i_88_141 : ins 88 141 = some (.aload_n 3, 142, 3, 0, 0, 0) := rfl
theorem i_88_142 : ins 88 142 = some (.aload 5, 144, 5, 0, 0, 0) := rfl
theorem i_88_144 : ins 88 144 = some (.iconst (-1), 145, 0, 0, 0, (-1)) := rfl
theorem i_88_145 : ins 88 145 = some (.aload_n 3, 146, 3, 0, 0, 0) := rfl
theorem i_88_146 : ins 88 146 = some (.getfield 212, 149, 0, 1, 0, 0) := rfl
theorem i_88_149 : ins 88 149 = some (.isub, 150, 0, 0, 0, 0) := rfl
theorem i_88_150 : ins 88 150 = some (.invokevirtual 229, 153, 4, 0, 3, 0) := rfl
theorem S88_141 {Q : Ou → Prop} {M : Mem} {κ : Kp} (hκ : Rd κ) {x u : Nat} (hx : x < 6) (hu : u < 6) {vx : Int32} (h1x : M (12 + 18 * x) 1 = vx) {tt : Nat} (b_tt : tt ≤ 100000)
    (k1 : RT 4 (0, entL 4 [.ref (12 + 18 * x), .ref (12 + 18 * u), .int ((-1) - vx)], [], M, κ) (fun o => ∃ v M1 κ1, o = (.inl v, M1, κ1) ∧ RT 88 (153, [UU, UU, UU, .ref (12 + 18 * x), UU, .ref (12 + 18 * u), UU, UU, .int (nI tt)], v.toList ++ [], M1, κ1) Q))
    : RT 88 (141, [UU, UU, UU, .ref (12 + 18 * x), UU, .ref (12 + 18 * u), UU, UU, .int (nI tt)], [], M, κ) Q := by
  refine w_load i_88_141 rfl rfl ?_
  refine w_load i_88_142 rfl rfl ?_
  refine w_push i_88_144 rfl ?_
  refine w_load i_88_145 rfl rfl ?_
  refine w_getI (v := vx) i_88_146 hκ (bl_ob (bl_b (by omega : x < 6))) rfl (h1x) ?_
  refine w_bin (w := ((-1) - vx)) i_88_149 rfl rfl ?_
  exact w_callVI (i := _) i_88_150 ⟨by decide, by decide, by decide, rfl⟩ hκ (bl_ob (bl_b (by omega : x < 6))) (av := [.ref (12 + 18 * u), .int ((-1) - vx)]) (rest := []) rfl rfl (Nat.le_of_ble_eq_true rfl) (k1)
theorem i_88_153 : ins 88 153 = some (.aload_n 3, 154, 3, 0, 0, 0) := rfl
theorem i_88_154 : ins 88 154 = some (.iload 8, 156, 8, 0, 0, 0) := rfl
theorem i_88_156 : ins 88 156 = some (.invokevirtual 233, 159, 5, 0, 2, 0) := rfl
theorem i_88_159 : ins 88 159 = some (.goto 110, 162, 269, 0, 0, 0) := rfl
theorem i_88_214 : ins 88 214 = some (.goto 55, 217, 269, 0, 0, 0) := rfl
theorem S88_153 {Q : Ou → Prop} {M : Mem} {κ : Kp} (hκ : Rd κ) {x : Nat} (hx : x < 6) {tt : Nat} (b_tt : tt ≤ 100000)
    (k1 : RT 5 (0, entL 5 [.ref (12 + 18 * x), .int (nI tt)], [], M, κ) (fun o => ∃ v M1 κ1, o = (.inl v, M1, κ1) ∧ RT 88 (159, [UU, UU, UU, .ref (12 + 18 * x), UU, UU, UU, UU, .int (nI tt)], v.toList ++ [], M1, κ1) Q))
    : RT 88 (153, [UU, UU, UU, .ref (12 + 18 * x), UU, UU, UU, UU, .int (nI tt)], [], M, κ) Q := by
  refine w_load i_88_153 rfl rfl ?_
  refine w_load i_88_154 rfl rfl ?_
  exact w_callVI (i := _) i_88_156 ⟨by decide, by decide, by decide, rfl⟩ hκ (bl_ob (bl_b (by omega : x < 6))) (av := [.int (nI tt)]) (rest := []) rfl rfl (Nat.le_of_ble_eq_true rfl) (k1)
theorem S88_159 {Q : Ou → Prop} {M : Mem} {κ : Kp} (hκ : Rd κ) {x : Nat} (hx : x < 6) 
    (k1 : Q (.inl none, M, κ))
    : RT 88 (159, [UU, UU, UU, UU, UU, UU, UU, UU, UU], [], M, κ) Q := by
  refine w_goto i_88_159 ?_
  exact w_vret i_88_269 rfl (k1)
theorem S88_214 {Q : Ou → Prop} {M : Mem} {κ : Kp} (hκ : Rd κ) {x : Nat} (hx : x < 6) 
    (k1 : Q (.inl none, M, κ))
    : RT 88 (214, [UU, UU, UU, UU, UU, UU, UU, UU, UU], [], M, κ) Q := by
  refine w_goto i_88_214 ?_
  exact w_vret i_88_269 rfl (k1)
theorem S88_269 {Q : Ou → Prop} {M : Mem} {κ : Kp} (hκ : Rd κ) {x : Nat} (hx : x < 6) 
    (k1 : Q (.inl none, M, κ))
    : RT 88 (269, [UU, UU, UU, UU, UU, UU, UU, UU, UU], [], M, κ) Q := by
  exact w_vret i_88_269 rfl (k1)
theorem i_88_206 : ins 88 206 = some (.aload_n 3, 207, 3, 0, 0, 0) := rfl
theorem i_88_207 : ins 88 207 = some (.aload_n 3, 208, 3, 0, 0, 0) := rfl
theorem i_88_208 : ins 88 208 = some (.getfield 218, 211, 0, 3, 0, 0) := rfl
theorem i_88_211 : ins 88 211 = some (.invokevirtual 233, 214, 5, 0, 2, 0) := rfl
theorem i_88_261 : ins 88 261 = some (.aload_n 3, 262, 3, 0, 0, 0) := rfl
theorem i_88_262 : ins 88 262 = some (.aload_n 3, 263, 3, 0, 0, 0) := rfl
theorem i_88_263 : ins 88 263 = some (.getfield 178, 266, 0, 2, 0, 0) := rfl
theorem i_88_266 : ins 88 266 = some (.invokevirtual 233, 269, 5, 0, 2, 0) := rfl
theorem S88_206 {Q : Ou → Prop} {M : Mem} {κ : Kp} (hκ : Rd κ) {x t u : Nat} (hx : x < 6) (h2x : M (12 + 18 * x) 2 = nI t) (h3x : M (12 + 18 * x) 3 = nI u) 
    (k1 : RT 5 (0, entL 5 [.ref (12 + 18 * x), .int (nI u)], [], M, κ) (fun o => ∃ v M1 κ1, o = (.inl v, M1, κ1) ∧ RT 88 (214, [UU, UU, UU, .ref (12 + 18 * x), UU, UU, UU, UU, UU], v.toList ++ [], M1, κ1) Q))
    : RT 88 (206, [UU, UU, UU, .ref (12 + 18 * x), UU, UU, UU, UU, UU], [], M, κ) Q := by
  refine w_load i_88_206 rfl rfl ?_
  refine w_load i_88_207 rfl rfl ?_
  refine w_getI (v := (nI u)) i_88_208 hκ (bl_ob (bl_b (by omega : x < 6))) rfl (h3x) ?_
  exact w_callVI (i := _) i_88_211 ⟨by decide, by decide, by decide, rfl⟩ hκ (bl_ob (bl_b (by omega : x < 6))) (av := [.int (nI u)]) (rest := []) rfl rfl (Nat.le_of_ble_eq_true rfl) (k1)
theorem S88_261 {Q : Ou → Prop} {M : Mem} {κ : Kp} (hκ : Rd κ) {x t u : Nat} (hx : x < 6) (h2x : M (12 + 18 * x) 2 = nI t) (h3x : M (12 + 18 * x) 3 = nI u) 
    (k1 : RT 5 (0, entL 5 [.ref (12 + 18 * x), .int (nI t)], [], M, κ) (fun o => ∃ v M1 κ1, o = (.inl v, M1, κ1) ∧ RT 88 (269, [UU, UU, UU, .ref (12 + 18 * x), UU, UU, UU, UU, UU], v.toList ++ [], M1, κ1) Q))
    : RT 88 (261, [UU, UU, UU, .ref (12 + 18 * x), UU, UU, UU, UU, UU], [], M, κ) Q := by
  refine w_load i_88_261 rfl rfl ?_
  refine w_load i_88_262 rfl rfl ?_
  refine w_getI (v := (nI t)) i_88_263 hκ (bl_ob (bl_b (by omega : x < 6))) rfl (h2x) ?_
  exact w_callVI (i := _) i_88_266 ⟨by decide, by decide, by decide, rfl⟩ hκ (bl_ob (bl_b (by omega : x < 6))) (av := [.int (nI t)]) (rest := []) rfl rfl (Nat.le_of_ble_eq_true rfl) (k1)
/-- the blocks: how they end, their t, how many operations, who is gone, the operations -/
abbrev Ss : Type := (Nat → Int32) × (Nat → Nat) × (Nat → Nat) × (Nat → Bool) × (Nat → Op)
theorem i_89_0 : ins 89 0 = some (.iload_n 3, 1, 3, 0, 0, 0) := rfl
theorem i_89_1 : ins 89 1 = some (.ifCond .eq 32, 4, 33, 0, 0, 0) := rfl
theorem i_89_4 : ins 89 4 = some (.iload_n 3, 5, 3, 0, 0, 0) := rfl
theorem i_89_5 : ins 89 5 = some (.iload_n 2, 6, 2, 0, 0, 0) := rfl
theorem i_89_6 : ins 89 6 = some (.if_icmp .eq 27, 9, 33, 0, 0, 0) := rfl
theorem i_89_9 : ins 89 9 = some (.aload_n 0, 10, 0, 0, 0, 0) := rfl
theorem i_89_10 : ins 89 10 = some (.iload_n 3, 11, 3, 0, 0, 0) := rfl
theorem i_89_11 : ins 89 11 = some (.aaload, 12, 0, 0, 0, 0) := rfl
theorem i_89_12 : ins 89 12 = some (.invokevirtual 236, 15, 7, 0, 1, 0) := rfl
theorem i_89_15 : ins 89 15 = some (.ifCond .ne 18, 18, 33, 0, 0, 0) := rfl
theorem i_89_18 : ins 89 18 = some (.aload_n 0, 19, 0, 0, 0, 0) := rfl
theorem i_89_19 : ins 89 19 = some (.iload_n 3, 20, 3, 0, 0, 0) := rfl
theorem i_89_20 : ins 89 20 = some (.aaload, 21, 0, 0, 0, 0) := rfl
theorem i_89_21 : ins 89 21 = some (.aload_n 0, 22, 0, 0, 0, 0) := rfl
theorem i_89_22 : ins 89 22 = some (.iload_n 2, 23, 2, 0, 0, 0) := rfl
theorem i_89_23 : ins 89 23 = some (.aaload, 24, 0, 0, 0, 0) := rfl
theorem i_89_24 : ins 89 24 = some (.getfield 212, 27, 0, 1, 0, 0) := rfl
theorem i_89_27 : ins 89 27 = some (.invokevirtual 215, 30, 8, 0, 2, 0) := rfl
theorem i_89_30 : ins 89 30 = some (.ifCond .eq 5, 33, 35, 0, 0, 0) := rfl
theorem i_89_33 : ins 89 33 = some (.iconst 0, 34, 0, 0, 0, 0) := rfl
theorem i_89_34 : ins 89 34 = some (.ireturn, 35, 0, 0, 0, 0) := rfl
theorem i_89_35 : ins 89 35 = some (.iconst 0, 36, 0, 0, 0, 0) := rfl
theorem i_89_36 : ins 89 36 = some (.istore 4, 38, 4, 0, 0, 0) := rfl
theorem i_89_38 : ins 89 38 = some (.iload 4, 40, 4, 0, 0, 0) := rfl
theorem i_89_40 : ins 89 40 = some (.iload_n 1, 41, 1, 0, 0, 0) := rfl
theorem i_89_41 : ins 89 41 = some (.if_icmp .ge 38, 44, 79, 0, 0, 0) := rfl
theorem i_89_44 : ins 89 44 = some (.iload 4, 46, 4, 0, 0, 0) := rfl
theorem i_89_46 : ins 89 46 = some (.iload_n 2, 47, 2, 0, 0, 0) := rfl
theorem i_89_47 : ins 89 47 = some (.if_icmp .eq 26, 50, 73, 0, 0, 0) := rfl
theorem i_89_50 : ins 89 50 = some (.aload_n 0, 51, 0, 0, 0, 0) := rfl
theorem i_89_51 : ins 89 51 = some (.iload 4, 53, 4, 0, 0, 0) := rfl
theorem i_89_53 : ins 89 53 = some (.aaload, 54, 0, 0, 0, 0) := rfl
theorem i_89_54 : ins 89 54 = some (.getfield 206, 57, 0, 5, 0, 0) := rfl
theorem i_89_57 : ins 89 57 = some (.ifCond .ne 16, 60, 73, 0, 0, 0) := rfl
theorem i_89_60 : ins 89 60 = some (.aload_n 0, 61, 0, 0, 0, 0) := rfl
theorem i_89_61 : ins 89 61 = some (.iload 4, 63, 4, 0, 0, 0) := rfl
theorem i_89_63 : ins 89 63 = some (.aaload, 64, 0, 0, 0, 0) := rfl
theorem i_89_64 : ins 89 64 = some (.iload_n 3, 65, 3, 0, 0, 0) := rfl
theorem i_89_65 : ins 89 65 = some (.invokevirtual 209, 68, 6, 0, 2, 0) := rfl
theorem i_89_68 : ins 89 68 = some (.ifCond .eq 5, 71, 73, 0, 0, 0) := rfl
theorem i_89_71 : ins 89 71 = some (.iconst 0, 72, 0, 0, 0, 0) := rfl
theorem i_89_72 : ins 89 72 = some (.ireturn, 73, 0, 0, 0, 0) := rfl
theorem i_89_73 : ins 89 73 = some (.iinc 4 1, 76, 4, 0, 0, 1) := rfl
theorem i_89_76 : ins 89 76 = some (.goto (-38), 79, 38, 0, 0, 0) := rfl
theorem i_89_79 : ins 89 79 = some (.iconst 1, 80, 0, 0, 0, 1) := rfl
theorem i_89_80 : ins 89 80 = some (.ireturn, 81, 0, 0, 0, 0) := rfl
theorem S89_0 {Q : Ou → Prop} {M : Mem} {κ : Kp} (hκ : Rd κ) {nb x y z : Nat} (hx : x < nb) (hy : y < nb) (hnb6 : nb ≤ 6) (hz : z ≤ nb) {s : Ss} {v : Nat → Int32} {f : Nat → Nat} (hB0 : ∀ z, z < nb → M (12 + 18 * z) 0 = s.1 z) (hB1 : ∀ z, z < nb → M (12 + 18 * z) 1 = v z) (hB2 : ∀ z, z < nb → M (12 + 18 * z) 2 = nI (s.2.1 z)) (hB3 : ∀ z, z < nb → M (12 + 18 * z) 3 = nI (f z)) (hB5 : ∀ z, z < nb → M (12 + 18 * z) 5 = bI (s.2.2.2.1 z))  {r_12 : Bool} {r_27 : Bool}
    (o1 : ¬ (y = 0) → ¬ (y = x) → Run 7 (0, entL 7 [.ref (12 + 18 * y)], [], M, κ) (.inl (some (.int (bI r_12))), M, κ))
    (o2 : ¬ (y = 0) → ¬ (y = x) → ¬ (r_12 = true) → Run 8 (0, entL 8 [.ref (12 + 18 * y), .int (v x)], [], M, κ) (.inl (some (.int (bI r_27))), M, κ))
    (k1 : ((y = 0) ∨ ((¬ (y = 0)) ∧ (y = x)) ∨ ((¬ (y = 0)) ∧ (¬ (y = x)) ∧ (r_12 = true)) ∨ ((¬ (y = 0)) ∧ (¬ (y = x)) ∧ (¬ (r_12 = true)) ∧ (r_27 = true))) → Q (.inl (some (.int 0)), M, κ))
    (k2 : ¬ (y = 0) → ¬ (y = x) → ¬ (r_12 = true) → ¬ (r_27 = true) → RT 89 (38, [.ref 3, .int (nI nb), .int (nI x), .int (nI y), .int (nI 0)], [], M, κ) Q)
    : RT 89 (0, [.ref 3, .int (nI nb), .int (nI x), .int (nI y), UU], [], M, κ) Q := by
  refine w_load i_89_0 rfl rfl ?_
  have K1 : ((y = 0) ∨ ((¬ (y = 0)) ∧ (y = x)) ∨ ((¬ (y = 0)) ∧ (¬ (y = x)) ∧ (r_12 = true)) ∨ ((¬ (y = 0)) ∧ (¬ (y = x)) ∧ (¬ (r_12 = true)) ∧ (r_27 = true))) → RT 89 (33, [.ref 3, .int (nI nb), .int (nI x), .int (nI y), UU], [], M, κ) Q := by
    intro h2
    refine w_push i_89_33 rfl ?_
    exact w_iret i_89_34 (.inr ⟨rfl, rfl⟩) (k1 h2)
  refine w_if0 (y = 0) i_89_1 (cZ_eq (a := y) (by omega) (by decide)) ?_ ?_
  · intro h3
    exact (by first | exact (K1 (.inl h3)) | (have K9 := K1 (.inl h3); simp only [↓if_pos h3] at K9 ⊢; exact (K9)))
  · intro h4
    refine w_load i_89_4 rfl rfl ?_
    refine w_load i_89_5 rfl rfl ?_
    refine w_if2 (y = x) i_89_6 (cN_eq (a := y) (b := x) (by omega) (by omega)) ?_ ?_
    · intro h5
      exact (by first | exact (K1 (.inr (.inl ⟨h4, h5⟩))) | (have K9 := K1 (.inr (.inl ⟨h4, h5⟩)); simp only [↓if_neg h4, ↓if_pos h5] at K9 ⊢; exact (K9)))
    · intro h6
      refine w_load i_89_9 rfl rfl ?_
      refine w_load i_89_10 rfl rfl ?_
      refine w_aaldN (e := y) (12 + 18 * y) i_89_11 hκ (⟨by decide, by decide⟩ : (kd 3 = 22 ∨ kd 3 = 23) ∧ 3 < 180) (by omega) rfl ?_
      refine w_callV (i := _) i_89_12 ⟨by decide, by decide, by decide, rfl⟩ hκ (bl_ob (bl_b (by omega : y < 6))) (av := []) (rest := []) rfl rfl (Nat.le_of_ble_eq_true rfl) (v := some (.int (bI r_12))) (o1 h4 h6) ?_
      refine w_if0 (r_12 = true) i_89_15 cB_ne ?_ ?_
      · intro h7
        exact (by first | exact (K1 (.inr (.inr (.inl ⟨h4, h6, h7⟩)))) | (have K9 := K1 (.inr (.inr (.inl ⟨h4, h6, h7⟩))); simp only [↓if_neg h4, ↓if_neg h6, ↓if_pos h7] at K9 ⊢; exact (K9)))
      · intro h8
        refine w_load i_89_18 rfl rfl ?_
        refine w_load i_89_19 rfl rfl ?_
        refine w_aaldN (e := y) (12 + 18 * y) i_89_20 hκ (⟨by decide, by decide⟩ : (kd 3 = 22 ∨ kd 3 = 23) ∧ 3 < 180) (by omega) rfl ?_
        refine w_load i_89_21 rfl rfl ?_
        refine w_load i_89_22 rfl rfl ?_
        refine w_aaldN (e := x) (12 + 18 * x) i_89_23 hκ (⟨by decide, by decide⟩ : (kd 3 = 22 ∨ kd 3 = 23) ∧ 3 < 180) (by omega) rfl ?_
        refine w_getI (v := (v x)) i_89_24 hκ (bl_ob (bl_b (by omega : x < 6))) rfl (hB1 x (by omega)) ?_
        refine w_callV (i := _) i_89_27 ⟨by decide, by decide, by decide, rfl⟩ hκ (bl_ob (bl_b (by omega : y < 6))) (av := [.int (v x)]) (rest := []) rfl rfl (Nat.le_of_ble_eq_true rfl) (v := some (.int (bI r_27))) (o2 h4 h6 h8) ?_
        refine w_if0n (r_27 = true) i_89_30 cB_eq ?_ ?_
        · intro h9
          exact (by first | exact (K1 (.inr (.inr (.inr ⟨h4, h6, h8, h9⟩)))) | (have K9 := K1 (.inr (.inr (.inr ⟨h4, h6, h8, h9⟩))); simp only [↓if_neg h4, ↓if_neg h6, ↓if_neg h8, ↓if_pos h9] at K9 ⊢; exact (K9)))
        · intro h10
          refine w_push i_89_35 rfl ?_
          refine w_store (l1 := [.ref 3, .int (nI nb), .int (nI x), .int (nI y), .int 0]) i_89_36 rfl (Nat.le_of_ble_eq_true rfl) rfl ?_
          exact (k2 h4 h6 h8 h10)
theorem S89_38 {Q : Ou → Prop} {M : Mem} {κ : Kp} (hκ : Rd κ) {nb x y z : Nat} (hx : x < nb) (hy : y < nb) (hnb6 : nb ≤ 6) (hz : z ≤ nb) {s : Ss} {v : Nat → Int32} {f : Nat → Nat} (hB0 : ∀ z, z < nb → M (12 + 18 * z) 0 = s.1 z) (hB1 : ∀ z, z < nb → M (12 + 18 * z) 1 = v z) (hB2 : ∀ z, z < nb → M (12 + 18 * z) 2 = nI (s.2.1 z)) (hB3 : ∀ z, z < nb → M (12 + 18 * z) 3 = nI (f z)) (hB5 : ∀ z, z < nb → M (12 + 18 * z) 5 = bI (s.2.2.2.1 z)) 
    (k1 : z < nb → ((z = x) ∨ ((¬ (z = x)) ∧ ((s.2.2.2.1 z) = true)) ∨ ((¬ (z = x)) ∧ (¬ ((s.2.2.2.1 z) = true)) ∧ (¬ ((comF (s.1 z) (nI (s.2.1 z)) (nI (f z)) (nI y)) = true)))) → RT 89 (38, [.ref 3, .int (nI nb), .int (nI x), .int (nI y), .int (nI (z + 1))], [], M, κ) Q)
    (k2 : z < nb → ¬ (z = x) → ¬ ((s.2.2.2.1 z) = true) → (comF (s.1 z) (nI (s.2.1 z)) (nI (f z)) (nI y)) = true → Q (.inl (some (.int 0)), M, κ))
    (k3 : ¬ (z < nb) → Q (.inl (some (.int 1)), M, κ))
    : RT 89 (38, [.ref 3, .int (nI nb), .int (nI x), .int (nI y), .int (nI z)], [], M, κ) Q := by
  refine w_load i_89_38 rfl rfl ?_
  refine w_load i_89_40 rfl rfl ?_
  refine w_if2n (z < nb) i_89_41 (cN_ge (a := z) (b := nb) (by omega) (by omega)) ?_ ?_
  · intro h1
    refine w_load i_89_44 rfl rfl ?_
    refine w_load i_89_46 rfl rfl ?_
    have K2 : ((z = x) ∨ ((¬ (z = x)) ∧ ((s.2.2.2.1 z) = true)) ∨ ((¬ (z = x)) ∧ (¬ ((s.2.2.2.1 z) = true)) ∧ (¬ ((comF (s.1 z) (nI (s.2.1 z)) (nI (f z)) (nI y)) = true)))) → RT 89 (73, [.ref 3, .int (nI nb), .int (nI x), .int (nI y), .int (nI z)], [], M, κ) Q := by
      intro h3
      refine w_iincN (n := z) (l1 := [.ref 3, .int (nI nb), .int (nI x), .int (nI y), .int (nI (z + 1))]) 1 i_89_73 rfl rfl ?_
      refine w_goto i_89_76 ?_
      exact (k1 h1 h3)
    refine w_if2 (z = x) i_89_47 (cN_eq (a := z) (b := x) (by omega) (by omega)) ?_ ?_
    · intro h4
      exact (by first | exact (K2 (.inl h4)) | (have K9 := K2 (.inl h4); simp only [↓if_pos h4] at K9 ⊢; exact (K9)))
    · intro h5
      refine w_load i_89_50 rfl rfl ?_
      refine w_load i_89_51 rfl rfl ?_
      refine w_aaldN (e := z) (12 + 18 * z) i_89_53 hκ (⟨by decide, by decide⟩ : (kd 3 = 22 ∨ kd 3 = 23) ∧ 3 < 180) (by omega) rfl ?_
      refine w_getI (v := (bI (s.2.2.2.1 z))) i_89_54 hκ (bl_ob (bl_b (by omega : z < 6))) rfl (hB5 z (by omega)) ?_
      refine w_if0 ((s.2.2.2.1 z) = true) i_89_57 cB_ne ?_ ?_
      · intro h6
        exact (by first | exact (K2 (.inr (.inl ⟨h5, h6⟩))) | (have K9 := K2 (.inr (.inl ⟨h5, h6⟩)); simp only [↓if_neg h5, ↓if_pos h6] at K9 ⊢; exact (K9)))
      · intro h7
        refine w_load i_89_60 rfl rfl ?_
        refine w_load i_89_61 rfl rfl ?_
        refine w_aaldN (e := z) (12 + 18 * z) i_89_63 hκ (⟨by decide, by decide⟩ : (kd 3 = 22 ∨ kd 3 = 23) ∧ 3 < 180) (by omega) rfl ?_
        refine w_load i_89_64 rfl rfl ?_
        refine w_callV (i := _) i_89_65 ⟨by decide, by decide, by decide, rfl⟩ hκ (bl_ob (bl_b (by omega : z < 6))) (av := [.int (nI y)]) (rest := []) rfl rfl (Nat.le_of_ble_eq_true rfl) (v := some (.int (bI (comF (s.1 z) (nI (s.2.1 z)) (nI (f z)) (nI y))))) (c6 hκ (bl_b (by omega : z < 6)) (hB0 z (by omega)) (hB2 z (by omega)) (hB3 z (by omega))) ?_
        refine w_if0n ((comF (s.1 z) (nI (s.2.1 z)) (nI (f z)) (nI y)) = true) i_89_68 cB_eq ?_ ?_
        · intro h8
          refine w_push i_89_71 rfl ?_
          exact w_iret i_89_72 (.inr ⟨rfl, rfl⟩) (k2 h1 h5 h7 h8)
        · intro h9
          exact (by first | exact (K2 (.inr (.inr ⟨h5, h7, h9⟩))) | (have K9 := K2 (.inr (.inr ⟨h5, h7, h9⟩)); simp only [↓if_neg h5, ↓if_neg h7, ↓if_neg h9] at K9 ⊢; exact (K9)))
  · intro h10
    refine w_push i_89_79 rfl ?_
    exact w_iret i_89_80 (.inr ⟨rfl, rfl⟩) (k3 h10)
theorem i_87_0 : ins 87 0 = some (.iconst 0, 1, 0, 0, 0, 0) := rfl
theorem i_87_1 : ins 87 1 = some (.istore_n 2, 2, 2, 0, 0, 0) := rfl
theorem i_87_2 : ins 87 2 = some (.iload_n 2, 3, 2, 0, 0, 0) := rfl
theorem i_87_3 : ins 87 3 = some (.iload_n 1, 4, 1, 0, 0, 0) := rfl
theorem i_87_4 : ins 87 4 = some (.if_icmp .ge 45, 7, 49, 0, 0, 0) := rfl
theorem i_87_7 : ins 87 7 = some (.aload_n 0, 8, 0, 0, 0, 0) := rfl
theorem i_87_8 : ins 87 8 = some (.iload_n 2, 9, 2, 0, 0, 0) := rfl
theorem i_87_9 : ins 87 9 = some (.aaload, 10, 0, 0, 0, 0) := rfl
theorem i_87_10 : ins 87 10 = some (.astore_n 3, 11, 3, 0, 0, 0) := rfl
theorem i_87_11 : ins 87 11 = some (.aload_n 3, 12, 3, 0, 0, 0) := rfl
theorem i_87_12 : ins 87 12 = some (.getfield 206, 15, 0, 5, 0, 0) := rfl
theorem i_87_15 : ins 87 15 = some (.ifCond .ne 28, 18, 43, 0, 0, 0) := rfl
theorem i_87_18 : ins 87 18 = some (.aload_n 3, 19, 3, 0, 0, 0) := rfl
theorem i_87_19 : ins 87 19 = some (.getfield 175, 22, 0, 0, 0, 0) := rfl
theorem i_87_22 : ins 87 22 = some (.iconst 2, 23, 0, 0, 0, 2) := rfl
theorem i_87_23 : ins 87 23 = some (.if_icmp .ne 20, 26, 43, 0, 0, 0) := rfl
theorem i_87_26 : ins 87 26 = some (.aload_n 3, 27, 3, 0, 0, 0) := rfl
theorem i_87_27 : ins 87 27 = some (.getfield 178, 30, 0, 2, 0, 0) := rfl
theorem i_87_30 : ins 87 30 = some (.aload_n 3, 31, 3, 0, 0, 0) := rfl
theorem i_87_31 : ins 87 31 = some (.getfield 218, 34, 0, 3, 0, 0) := rfl
theorem i_87_34 : ins 87 34 = some (.if_icmp .eq 9, 37, 43, 0, 0, 0) := rfl
theorem i_87_37 : ins 87 37 = some (.aload_n 0, 38, 0, 0, 0, 0) := rfl
theorem i_87_38 : ins 87 38 = some (.iload_n 1, 39, 1, 0, 0, 0) := rfl
theorem i_87_39 : ins 87 39 = some (.iload_n 2, 40, 2, 0, 0, 0) := rfl
theorem i_87_40 : ins 87 40 = some (.invokestatic 221, 43, 88, 1, 3, 0) := rfl
theorem i_87_43 : ins 87 43 = some (.iinc 2 1, 46, 2, 0, 0, 1) := rfl
theorem i_87_46 : ins 87 46 = some (.goto (-44), 49, 2, 0, 0, 0) := rfl
theorem i_87_49 : ins 87 49 = some (.return_, 50, 0, 0, 0, 0) := rfl
theorem S87_0 {Q : Ou → Prop} {M : Mem} {κ : Kp} (hκ : Rd κ) {nb x : Nat} (hx : x ≤ nb) (hnb6 : nb ≤ 6) {s : Ss} {v : Nat → Int32} {f : Nat → Nat} (hB0 : ∀ z, z < nb → M (12 + 18 * z) 0 = s.1 z) (hB1 : ∀ z, z < nb → M (12 + 18 * z) 1 = v z) (hB2 : ∀ z, z < nb → M (12 + 18 * z) 2 = nI (s.2.1 z)) (hB3 : ∀ z, z < nb → M (12 + 18 * z) 3 = nI (f z)) (hB5 : ∀ z, z < nb → M (12 + 18 * z) 5 = bI (s.2.2.2.1 z)) (ht6 : x < nb → s.2.1 x < 6 ∧ f x < 6) 
    (k1 : RT 87 (2, [.ref 3, .int (nI nb), .int (nI 0), UU], [], M, κ) Q)
    : RT 87 (0, [.ref 3, .int (nI nb), UU, UU], [], M, κ) Q := by
  refine w_push i_87_0 rfl ?_
  refine w_store (l1 := [.ref 3, .int (nI nb), .int 0, UU]) i_87_1 rfl (Nat.le_of_ble_eq_true rfl) rfl ?_
  exact (k1)
theorem S87_2 {Q : Ou → Prop} {M : Mem} {κ : Kp} (hκ : Rd κ) {nb x : Nat} (hx : x ≤ nb) (hnb6 : nb ≤ 6) {s : Ss} {v : Nat → Int32} {f : Nat → Nat} (hB0 : ∀ z, z < nb → M (12 + 18 * z) 0 = s.1 z) (hB1 : ∀ z, z < nb → M (12 + 18 * z) 1 = v z) (hB2 : ∀ z, z < nb → M (12 + 18 * z) 2 = nI (s.2.1 z)) (hB3 : ∀ z, z < nb → M (12 + 18 * z) 3 = nI (f z)) (hB5 : ∀ z, z < nb → M (12 + 18 * z) 5 = bI (s.2.2.2.1 z)) (ht6 : x < nb → s.2.1 x < 6 ∧ f x < 6) 
    (k1 : x < nb → (((s.2.2.2.1 x) = true) ∨ ((¬ ((s.2.2.2.1 x) = true)) ∧ ((s.1 x) = 2) ∧ ((s.2.1 x) = (f x))) ∨ ((¬ ((s.2.2.2.1 x) = true)) ∧ (¬ ((s.1 x) = 2)))) → RT 87 (2, [.ref 3, .int (nI nb), .int (nI (x + 1)), UU], [], M, κ) Q)
    (k2 : x < nb → ¬ ((s.2.2.2.1 x) = true) → (s.1 x) = 2 → ¬ ((s.2.1 x) = (f x)) → RT 88 (0, entL 88 [.ref 3, .int (nI nb), .int (nI x)], [], M, κ) (fun o => ∃ v M1 κ1, o = (.inl v, M1, κ1) ∧ RT 87 (43, [.ref 3, .int (nI nb), .int (nI x), .ref (12 + 18 * x)], v.toList ++ [], M1, κ1) Q))
    (k3 : ¬ (x < nb) → Q (.inl none, M, κ))
    : RT 87 (2, [.ref 3, .int (nI nb), .int (nI x), UU], [], M, κ) Q := by
  refine w_load i_87_2 rfl rfl ?_
  refine w_load i_87_3 rfl rfl ?_
  refine w_if2n (x < nb) i_87_4 (cN_ge (a := x) (b := nb) (by omega) (by omega)) ?_ ?_
  · intro h1
    refine w_load i_87_7 rfl rfl ?_
    refine w_load i_87_8 rfl rfl ?_
    refine w_aaldN (e := x) (12 + 18 * x) i_87_9 hκ (⟨by decide, by decide⟩ : (kd 3 = 22 ∨ kd 3 = 23) ∧ 3 < 180) (by omega) rfl ?_
    refine w_store (l1 := [.ref 3, .int (nI nb), .int (nI x), .ref (12 + 18 * x)]) i_87_10 rfl (Nat.le_of_ble_eq_true rfl) rfl ?_
    refine w_load i_87_11 rfl rfl ?_
    refine w_getI (v := (bI (s.2.2.2.1 x))) i_87_12 hκ (bl_ob (bl_b (by omega : x < 6))) rfl (hB5 x (by omega)) ?_
    have K2 : (((s.2.2.2.1 x) = true) ∨ ((¬ ((s.2.2.2.1 x) = true)) ∧ ((s.1 x) = 2) ∧ ((s.2.1 x) = (f x))) ∨ ((¬ ((s.2.2.2.1 x) = true)) ∧ (¬ ((s.1 x) = 2)))) → RT 87 (43, [.ref 3, .int (nI nb), .int (nI x), .ref (12 + 18 * x)], [], M, κ) Q := by
      intro h3
      refine w_iincN (n := x) (l1 := [.ref 3, .int (nI nb), .int (nI (x + 1)), .ref (12 + 18 * x)]) 1 i_87_43 rfl rfl ?_
      refine w_goto i_87_46 ?_
      exact w_weak (lle_s (lle_s (lle_s (lle_u lle_n)))) (k1 h1 h3)
    refine w_if0 ((s.2.2.2.1 x) = true) i_87_15 cB_ne ?_ ?_
    · intro h4
      exact (by first | exact (K2 (.inl h4)) | (have K9 := K2 (.inl h4); simp only [↓if_pos h4] at K9 ⊢; exact (K9)))
    · intro h5
      refine w_load i_87_18 rfl rfl ?_
      refine w_getI (v := (s.1 x)) i_87_19 hκ (bl_ob (bl_b (by omega : x < 6))) rfl (hB0 x (by omega)) ?_
      refine w_push i_87_22 rfl ?_
      refine w_if2n ((s.1 x) = 2) i_87_23 cI_ne ?_ ?_
      · intro h6
        refine w_load i_87_26 rfl rfl ?_
        refine w_getI (v := (nI (s.2.1 x))) i_87_27 hκ (bl_ob (bl_b (by omega : x < 6))) rfl (hB2 x (by omega)) ?_
        refine w_load i_87_30 rfl rfl ?_
        refine w_getI (v := (nI (f x))) i_87_31 hκ (bl_ob (bl_b (by omega : x < 6))) rfl (hB3 x (by omega)) ?_
        refine w_if2 ((s.2.1 x) = (f x)) i_87_34 (cN_eq (a := (s.2.1 x)) (b := (f x)) (by omega) (by omega)) ?_ ?_
        · intro h7
          exact (by first | exact (K2 (.inr (.inl ⟨h5, h6, h7⟩))) | (have K9 := K2 (.inr (.inl ⟨h5, h6, h7⟩)); simp only [↓if_neg h5, ↓if_pos h6, ↓if_pos h7] at K9 ⊢; exact (K9)))
        · intro h8
          refine w_load i_87_37 rfl rfl ?_
          refine w_load i_87_38 rfl rfl ?_
          refine w_load i_87_39 rfl rfl ?_
          exact w_callSI i_87_40 ⟨by decide, by decide, by decide, rfl, rfl⟩ (av := [.ref 3, .int (nI nb), .int (nI x)]) (rest := []) rfl rfl (Nat.le_of_ble_eq_true rfl) (k2 h1 h5 h6 h8)
      · intro h9
        exact (by first | exact (K2 (.inr (.inr ⟨h5, h9⟩))) | (have K9 := K2 (.inr (.inr ⟨h5, h9⟩)); simp only [↓if_neg h5, ↓if_neg h9] at K9 ⊢; exact (K9)))
  · intro h10
    exact w_vret i_87_49 rfl (k3 h10)
theorem S87_43 {Q : Ou → Prop} {M : Mem} {κ : Kp} (hκ : Rd κ) {nb x : Nat} (hx : x < 6) 
    (k1 : RT 87 (2, [.ref 3, .int (nI nb), .int (nI (x + 1)), UU], [], M, κ) Q)
    : RT 87 (43, [.ref 3, .int (nI nb), .int (nI x), UU], [], M, κ) Q := by
  refine w_iincN (n := x) (l1 := [.ref 3, .int (nI nb), .int (nI (x + 1)), UU]) 1 i_87_43 rfl rfl ?_
  refine w_goto i_87_46 ?_
  exact (k1)
variable {Q : Ou → Prop} {M M0 : Mem} {κ : Kp}
def us {α : Type} (g : Nat → α) (x : Nat) (a : α) : Nat → α := fun y => if y = x then a else g y
theorem us_s {α : Type} {g : Nat → α} {x : Nat} {a : α} : us g x a x = a := if_pos rfl
theorem us_o {α : Type} {g : Nat → α} {x y : Nat} {a : α} (h : ¬ y = x) : us g x a y = g y := if_neg h
def apO (O1 : Op) (n1 : Nat) (O2 : Op) (g : Int32) : Op := fun f j => if j < n1 then O1 f j else if f = 5 then g else O2 f (j - n1)
def tkS (s : Ss) (x y : Nat) (g : Int32) : Ss := (s.1, s.2.1, us s.2.2.1 x (s.2.2.1 x + s.2.2.1 y), us s.2.2.2.1 y true, us s.2.2.2.2 x (apO (s.2.2.2.2 x) (s.2.2.1 x) (s.2.2.2.2 y) g))
def jmS (s : Ss) (x z : Nat) : Ss := (us s.1 x 1, us s.2.1 x z, s.2.2.1, s.2.2.2.1, s.2.2.2.2)
section G
variable (v : Nat → Int32) (f : Nat → Nat) (nb : Nat)
def mtk (s : Ss) (x y : Nat) : Bool := !decide (y = 0) && (!decide (y = x) && (!anyN (fun k => decide (¬ s.2.2.2.2 y 5 k = 0)) (s.2.2.1 y) && (!anyN (fun k => decide (wr (s.2.2.2.2 y) k = v x)) (s.2.2.1 y) && !anyN (fun z => !decide (z = x) && (!s.2.2.2.1 z && comF (s.1 z) (nI (s.2.1 z)) (nI (f z)) (nI y))) nb)))
def tky (s : Ss) (x y : Nat) : Bool := if s.1 y = 1 then mtk v f nb s x y else false
def gbB (s : Ss) (x : Nat) : Ss := if tky v f nb s x (s.2.1 x) = true ∧ tky v f nb s x (f x) = true ∧ s.2.1 (s.2.1 x) = s.2.1 (f x) ∧ s.2.2.1 x + s.2.2.1 (s.2.1 x) + s.2.2.1 (f x) ≤ 10 then jmS (tkS (tkS s x (s.2.1 x) (1 + v x)) x (f x) (-1 - v x)) x (s.2.1 (s.2.1 x))
  else if tky v f nb s x (s.2.1 x) = true ∧ s.2.1 (s.2.1 x) = f x ∧ s.2.2.1 x + s.2.2.1 (s.2.1 x) ≤ 10 then jmS (tkS s x (s.2.1 x) (1 + v x)) x (f x)
  else if tky v f nb s x (f x) = true ∧ s.2.1 (f x) = s.2.1 x ∧ s.2.2.1 x + s.2.2.1 (f x) ≤ 10 then jmS (tkS s x (f x) (-1 - v x)) x (s.2.1 x) else s
def gbS (s : Ss) (x : Nat) : Ss := if s.2.2.2.1 x = true ∨ ¬ s.1 x = 2 ∨ s.2.1 x = f x then s else gbB v f nb s x
/-- the blocks in the class and in the model -/
def BRl (M : Mem) (s : Ss) : Prop := ∀ z, z < nb → M (12 + 18 * z) 0 = s.1 z ∧ M (12 + 18 * z) 1 = v z ∧ M (12 + 18 * z) 2 = nI (s.2.1 z) ∧ M (12 + 18 * z) 3 = nI (f z) ∧ M (12 + 18 * z) 4 = nI (s.2.2.1 z) ∧ M (12 + 18 * z) 5 = bI (s.2.2.2.1 z) ∧ ∀ q, q < 6 → ∀ j, j < s.2.2.1 z → M (12 + 18 * z + 1 + q) j = s.2.2.2.2 z q j
def MRl (M : Mem) (s : Ss) : Prop := ∀ z, z < nb → M 147 z = s.1 z ∧ M 148 z = v z ∧ M 149 z = nI (s.2.1 z) ∧ M 150 z = nI (f z) ∧ M 151 z = nI (s.2.2.1 z) ∧ M 146 z = bI (s.2.2.2.1 z) ∧ ∀ q, q < 6 → ∀ j, j < s.2.2.1 z → M (152 + q) (10 * z + j) = s.2.2.2.2 z q j
/-- what holds of the blocks -/
def SIv (s : Ss) : Prop := (∀ z, z < nb → (¬ s.1 z = 0 → s.2.1 z < nb) ∧ (s.1 z = 2 → f z < nb) ∧ s.2.1 z < 6 ∧ f z < 6 ∧ s.2.2.1 z ≤ 10 ∧ Ook (s.2.2.2.2 z) (s.2.2.1 z) ∧ (0 ≤ (s.1 z).toInt ∧ (s.1 z).toInt ≤ 3) ∧ (0 ≤ (v z).toInt ∧ (v z).toInt ≤ 11)) ∧ (∀ z, z < nb → s.2.2.2.1 z = false → (¬ s.1 z = 0 → s.2.2.2.1 (s.2.1 z) = false) ∧ (s.1 z = 2 → s.2.2.2.1 (f z) = false)) ∧ s.2.2.2.1 0 = false
end G
section GP
variable {v : Nat → Int32} {f : Nat → Nat} {nb : Nat} {s : Ss} {x y : Nat}
theorem Ook_ap {O1 O2 : Op} {n1 n2 : Nat} {g : Int32} (h1 : Ook O1 n1) (h2 : Ook O2 n2) (hg : -12 ≤ g.toInt ∧ g.toInt ≤ 12) : Ook (apO O1 n1 O2 g) (n1 + n2) := by
  intro k hk
  unfold apO
  by_cases q : k < n1
  · have := h1 k q
    simp only [if_pos q]
    exact this
  · have := h2 (k - n1) (by omega)
    simp only [if_neg q]
    refine ⟨this.1, this.2.1, this.2.2.1, this.2.2.2.1, ?_⟩
    rw [if_pos trivial]
    exact hg
theorem mtk_iff : mtk v f nb s x y = true ↔ ¬ y = 0 ∧ ¬ y = x ∧ (∀ k, k < s.2.2.1 y → s.2.2.2.2 y 5 k = 0) ∧ (∀ k, k < s.2.2.1 y → ¬ wr (s.2.2.2.2 y) k = v x) ∧ ∀ z, z < nb → ¬ z = x → s.2.2.2.1 z = false → ¬ comF (s.1 z) (nI (s.2.1 z)) (nI (f z)) (nI y) = true := by
  unfold mtk
  have nn : ∀ (g : Nat → Bool) (n : Nat), (!anyN g n) = true ↔ ∀ k, k < n → g k = false := fun g n => by
    rw [Bool.not_eq_true', Bool.eq_false_iff]
    constructor
    · intro h k hk
      exact Bool.eq_false_iff.mpr (fun z => h (anyN_of hk z))
    · intro h z
      obtain ⟨k, h1, h2⟩ := (anyN_iff n).mp z
      rw [h k h1] at h2
      cases h2
  rw [Bool.and_eq_true, Bool.and_eq_true, Bool.and_eq_true, Bool.and_eq_true, nn, nn, nn]
  have e1 : (!decide (y = 0)) = true ↔ ¬ y = 0 := by simp
  have e2 : (!decide (y = x)) = true ↔ ¬ y = x := by simp
  rw [e1, e2]
  refine and_congr Iff.rfl (and_congr Iff.rfl (and_congr ?_ (and_congr ?_ ?_)))
  · refine forall_congr' (fun k => forall_congr' (fun hk => ?_))
    by_cases q : s.2.2.2.2 y 5 k = 0 <;> simp [q]
  · refine forall_congr' (fun k => forall_congr' (fun hk => ?_))
    by_cases q : wr (s.2.2.2.2 y) k = v x <;> simp [q]
  · refine forall_congr' (fun z => forall_congr' (fun hz => ?_))
    by_cases q : z = x
    · simp [q]
    · cases q2 : s.2.2.2.1 z <;> simp [q]
theorem comF_iff {e : Int32} {a b c : Nat} (ha : a ≤ 100) (hb : b ≤ 100) (hc : c ≤ 100) : comF e (nI a) (nI b) (nI c) = true ↔ (¬ e = 0 ∧ a = c) ∨ (e = 2 ∧ b = c) := by
  unfold comF
  rw [decide_eq_true_iff, nI_eq (by omega) (by omega), nI_eq (by omega) (by omega)]
/-- a take keeps what holds -/
theorem tk_gone {g : Int32} {z : Nat} : (tkS s x y g).2.2.2.1 z = if z = y then true else s.2.2.2.1 z := rfl
theorem SIv_step (hnb6 : nb ≤ 6) (hI : SIv v f nb s) (hx : x < nb) (hgx : s.2.2.2.1 x = false) (hex : s.1 x = 2) (hne : ¬ s.2.1 x = f x) : SIv v f nb (gbB v f nb s x) := by
  have hI0 := hI
  obtain ⟨h1, h2, h3⟩ := hI
  have hX := h1 x hx
  have hz2 : ¬ s.1 x = 0 := by rw [hex]; decide
  have ht : s.2.1 x < nb := hX.1 hz2
  have hu : f x < nb := hX.2.1 hex
  have hT := h1 _ ht
  have hU := h1 _ hu
  have hgt := (h2 x hx hgx).1 hz2
  have hgu := (h2 x hx hgx).2 hex
  have g1 : -12 ≤ (1 + v x).toInt ∧ (1 + v x).toInt ≤ 12 := by
    have := hX.2.2.2.2.2.2.2
    rw [l_add (by rw [t1]; omega) (by omega), t1]
    omega
  have g2 : -12 ≤ (-1 - v x).toInt ∧ (-1 - v x).toInt ≤ 12 := by
    have := hX.2.2.2.2.2.2.2
    rw [l_sub (by rw [cm1]; omega) (by omega), cm1]
    omega
  -- nobody else comes to one that is taken
  have noc : ∀ y, y < nb → tky v f nb s x y = true → s.1 y = 1 ∧ ¬ y = 0 ∧ ¬ y = x ∧ ∀ z, z < nb → ¬ z = x → s.2.2.2.1 z = false → (¬ s.1 z = 0 → ¬ s.2.1 z = y) ∧ (s.1 z = 2 → ¬ f z = y) := fun y hy h => by
    unfold tky at h
    by_cases q : s.1 y = 1
    · rw [if_pos q] at h
      obtain ⟨a1, a2, a3, a4, a5⟩ := mtk_iff.mp h
      refine ⟨q, a1, a2, fun z hz hzx hzg => ?_⟩
      have h5 := a5 z hz hzx hzg
      refine ⟨fun c1 c2 => h5 ?_, fun c1 c2 => h5 ?_⟩
      · unfold comF
        exact decide_eq_true (.inl ⟨c1, by rw [c2]⟩)
      · unfold comF
        exact decide_eq_true (.inr ⟨c1, by rw [c2]⟩)
    · rw [if_neg q] at h
      cases h
  have n10 : ¬ (1 : Int32) = 0 := by decide
  have n12 : ¬ (1 : Int32) = 2 := by decide
  have ok : ∀ (s' : Ss) (w : Nat), w < nb → s'.1 = us s.1 x 1 → s'.2.1 = us s.2.1 x w → (∀ z, z < nb → s'.2.2.1 z ≤ 10 ∧ Ook (s'.2.2.2.2 z) (s'.2.2.1 z)) → (s'.2.2.2.1 0 = false) → (s'.2.2.2.1 w = false) → (∀ z, z < nb → ¬ z = x → s'.2.2.2.1 z = false → (¬ s.1 z = 0 → s'.2.2.2.1 (s.2.1 z) = false) ∧ (s.1 z = 2 → s'.2.2.2.1 (f z) = false)) → SIv v f nb s' := by
    intro s' w hw e1 e2 e3 e4 e5 e7
    refine ⟨fun z hz => ?_, fun z hz hg => ?_, e4⟩
    · have hZ := h1 z hz
      rw [e1, e2]
      by_cases q : z = x
      · rw [q, us_s, us_s]
        rw [q] at hZ
        exact ⟨fun _ => hw, fun c => absurd c n12, by omega, hZ.2.2.2.1, (e3 x hx).1, (e3 x hx).2, by rw [t1]; omega, hZ.2.2.2.2.2.2.2⟩
      · rw [us_o q, us_o q]
        exact ⟨hZ.1, hZ.2.1, hZ.2.2.1, hZ.2.2.2.1, (e3 z hz).1, (e3 z hz).2, hZ.2.2.2.2.2.2.1, hZ.2.2.2.2.2.2.2⟩
    · rw [e1, e2]
      by_cases q : z = x
      · rw [q, us_s, us_s]
        exact ⟨fun _ => e5, fun c => absurd c n12⟩
      · rw [us_o q, us_o q]
        exact e7 z hz q hg
  unfold gbB
  by_cases q1 : tky v f nb s x (s.2.1 x) = true ∧ tky v f nb s x (f x) = true ∧ s.2.1 (s.2.1 x) = s.2.1 (f x) ∧ s.2.2.1 x + s.2.2.1 (s.2.1 x) + s.2.2.1 (f x) ≤ 10
  · rw [if_pos q1]
    obtain ⟨b1, b2, b3, b4⟩ := q1
    obtain ⟨c1, c2, c3, c4⟩ := noc _ ht b1
    obtain ⟨d1, d2, d3, d4⟩ := noc _ hu b2
    have hTz : ¬ s.1 (s.2.1 x) = 0 := by rw [c1]; exact n10
    have hUz : ¬ s.1 (f x) = 0 := by rw [d1]; exact n10
    have gon : ∀ z, (jmS (tkS (tkS s x (s.2.1 x) (1 + v x)) x (f x) (-1 - v x)) x (s.2.1 (s.2.1 x))).2.2.2.1 z = if z = f x then true else if z = s.2.1 x then true else s.2.2.2.1 z := fun _ => rfl
    have wU : ¬ s.2.1 (s.2.1 x) = f x := (d4 _ ht c3 hgt).1 hTz
    have wT : ¬ s.2.1 (s.2.1 x) = s.2.1 x := by
      rw [b3]
      exact (c4 _ hu d3 hgu).1 hUz
    refine ok _ (s.2.1 (s.2.1 x)) (hT.1 hTz) rfl rfl (fun z hz => ?_) ?_ ?_ (fun z hz hzx hg => ?_)
    · have hZ := h1 z hz
      by_cases q : z = x
      · rw [q]
        have ec : (jmS (tkS (tkS s x (s.2.1 x) (1 + v x)) x (f x) (-1 - v x)) x (s.2.1 (s.2.1 x))).2.2.1 x = s.2.2.1 x + s.2.2.1 (s.2.1 x) + s.2.2.1 (f x) := by
          show us (us s.2.2.1 x (s.2.2.1 x + s.2.2.1 (s.2.1 x))) x (us s.2.2.1 x (s.2.2.1 x + s.2.2.1 (s.2.1 x)) x + us s.2.2.1 x (s.2.2.1 x + s.2.2.1 (s.2.1 x)) (f x)) x = _
          rw [us_s, us_s, us_o d3]
        have eo : (jmS (tkS (tkS s x (s.2.1 x) (1 + v x)) x (f x) (-1 - v x)) x (s.2.1 (s.2.1 x))).2.2.2.2 x = apO (apO (s.2.2.2.2 x) (s.2.2.1 x) (s.2.2.2.2 (s.2.1 x)) (1 + v x)) (s.2.2.1 x + s.2.2.1 (s.2.1 x)) (s.2.2.2.2 (f x)) (-1 - v x) := by
          show us (us s.2.2.2.2 x (apO (s.2.2.2.2 x) (s.2.2.1 x) (s.2.2.2.2 (s.2.1 x)) (1 + v x))) x (apO (us s.2.2.2.2 x (apO (s.2.2.2.2 x) (s.2.2.1 x) (s.2.2.2.2 (s.2.1 x)) (1 + v x)) x) (us s.2.2.1 x (s.2.2.1 x + s.2.2.1 (s.2.1 x)) x) (us s.2.2.2.2 x (apO (s.2.2.2.2 x) (s.2.2.1 x) (s.2.2.2.2 (s.2.1 x)) (1 + v x)) (f x)) (-1 - v x)) x = _
          rw [us_s, us_s, us_s, us_o d3]
        rw [ec, eo]
        exact ⟨b4, Ook_ap (Ook_ap hX.2.2.2.2.2.1 hT.2.2.2.2.2.1 g1) hU.2.2.2.2.2.1 g2⟩
      · have ec : (jmS (tkS (tkS s x (s.2.1 x) (1 + v x)) x (f x) (-1 - v x)) x (s.2.1 (s.2.1 x))).2.2.1 z = s.2.2.1 z := by
          show us (us _ x _) x _ z = _
          rw [us_o q, us_o q]
        have eo : (jmS (tkS (tkS s x (s.2.1 x) (1 + v x)) x (f x) (-1 - v x)) x (s.2.1 (s.2.1 x))).2.2.2.2 z = s.2.2.2.2 z := by
          show us (us _ x _) x _ z = _
          rw [us_o q, us_o q]
        rw [ec, eo]
        exact ⟨hZ.2.2.2.2.1, hZ.2.2.2.2.2.1⟩
    · rw [gon, if_neg (fun c => d2 c.symm), if_neg (fun c => c2 c.symm)]
      exact h3
    · rw [gon, if_neg wU, if_neg wT]
      exact (h2 _ ht hgt).1 hTz
    · rw [gon] at hg
      by_cases qa : z = f x
      · rw [if_pos qa] at hg; cases hg
      · rw [if_neg qa] at hg
        by_cases qb : z = s.2.1 x
        · rw [if_pos qb] at hg; cases hg
        · rw [if_neg qb] at hg
          have k1 := c4 z hz hzx hg
          have k2 := d4 z hz hzx hg
          have k3 := h2 z hz hg
          refine ⟨fun r => ?_, fun r => ?_⟩
          · rw [gon, if_neg (k2.1 r), if_neg (k1.1 r)]
            exact k3.1 r
          · rw [gon, if_neg (k2.2 r), if_neg (k1.2 r)]
            exact k3.2 r
  · rw [if_neg q1]
    -- one is taken
    have one : ∀ y w g, y < nb → w < nb → tky v f nb s x y = true → ¬ w = y → s.2.2.2.1 w = false → s.2.2.1 x + s.2.2.1 y ≤ 10 → (-12 ≤ g.toInt ∧ g.toInt ≤ 12) → SIv v f nb (jmS (tkS s x y g) x w) := by
      intro y w g hy hw b1 hwy hgw b4 hg0
      obtain ⟨c1, c2, c3, c4⟩ := noc y hy b1
      have hY := h1 y hy
      have gon : ∀ z, (jmS (tkS s x y g) x w).2.2.2.1 z = if z = y then true else s.2.2.2.1 z := fun _ => rfl
      refine ok _ w hw rfl rfl (fun z hz => ?_) ?_ ?_ (fun z hz hzx hg => ?_)
      · have hZ := h1 z hz
        by_cases q : z = x
        · rw [q]
          have ec : (jmS (tkS s x y g) x w).2.2.1 x = s.2.2.1 x + s.2.2.1 y := us_s
          have eo : (jmS (tkS s x y g) x w).2.2.2.2 x = apO (s.2.2.2.2 x) (s.2.2.1 x) (s.2.2.2.2 y) g := us_s
          rw [ec, eo]
          exact ⟨b4, Ook_ap hX.2.2.2.2.2.1 hY.2.2.2.2.2.1 hg0⟩
        · have ec : (jmS (tkS s x y g) x w).2.2.1 z = s.2.2.1 z := us_o q
          have eo : (jmS (tkS s x y g) x w).2.2.2.2 z = s.2.2.2.2 z := us_o q
          rw [ec, eo]
          exact ⟨hZ.2.2.2.2.1, hZ.2.2.2.2.2.1⟩
      · rw [gon, if_neg (fun c => c2 c.symm)]
        exact h3
      · rw [gon, if_neg hwy]
        exact hgw
      · rw [gon] at hg
        by_cases qb : z = y
        · rw [if_pos qb] at hg; cases hg
        · rw [if_neg qb] at hg
          have k1 := c4 z hz hzx hg
          have k3 := h2 z hz hg
          refine ⟨fun r => ?_, fun r => ?_⟩
          · rw [gon, if_neg (k1.1 r)]
            exact k3.1 r
          · rw [gon, if_neg (k1.2 r)]
            exact k3.2 r
    by_cases q2 : tky v f nb s x (s.2.1 x) = true ∧ s.2.1 (s.2.1 x) = f x ∧ s.2.2.1 x + s.2.2.1 (s.2.1 x) ≤ 10
    · rw [if_pos q2]
      exact one _ _ _ ht hu q2.1 (fun c => hne c.symm) hgu q2.2.2 g1
    · rw [if_neg q2]
      by_cases q3 : tky v f nb s x (f x) = true ∧ s.2.1 (f x) = s.2.1 x ∧ s.2.2.1 x + s.2.2.1 (f x) ≤ 10
      · rw [if_pos q3]
        exact one _ _ _ hu ht q3.1 hne hgt q3.2.2 g2
      · rw [if_neg q3]
        exact hI0
theorem SIv_all (hnb6 : nb ≤ 6) (hI : SIv v f nb s) : ∀ m, m ≤ nb → SIv v f nb (fo (fun x s => gbS v f nb s x) s m) := fun m => by
  induction m with
  | zero => exact fun _ => hI
  | succ m ih =>
    intro hm
    rw [fo_suc]
    have h := ih (by omega)
    generalize fo (fun x s => gbS v f nb s x) s m = s' at h ⊢
    unfold gbS
    by_cases q : s'.2.2.2.1 m = true ∨ ¬ s'.1 m = 2 ∨ s'.2.1 m = f m
    · rw [if_pos q]
      exact h
    · rw [if_neg q]
      have q1 : s'.2.2.2.1 m = false := Bool.eq_false_iff.mpr (fun c => q (.inl c))
      have q2 : s'.1 m = 2 := Classical.byContradiction (fun c => q (.inr (.inl c)))
      exact SIv_step hnb6 h (by omega) q1 q2 (fun c => q (.inr (.inr c)))
/-- a take and a jump in the class -/
theorem BRl_tk {M' : Mem} {g : Int32} (hB : BRl v f nb M s) (hx : x < nb) (hy : y < nb) (hyx : ¬ y = x) (h1 : ∀ o j, ¬ (o = 12 + 18 * x ∧ j = 4) → ¬ (o = 12 + 18 * y ∧ j = 5) → ¬ (12 + 18 * x + 1 ≤ o ∧ o ≤ 12 + 18 * x + 6 ∧ s.2.2.1 x ≤ j ∧ j < s.2.2.1 x + s.2.2.1 y) → M' o j = M o j) (h2 : M' (12 + 18 * x) 4 = nI (s.2.2.1 x + s.2.2.1 y)) (h3 : M' (12 + 18 * y) 5 = 1) (h4 : ∀ q, q < 6 → ∀ j, j < s.2.2.1 y → M' (12 + 18 * x + 1 + q) (s.2.2.1 x + j) = if q = 5 then g else M (12 + 18 * y + 1 + q) j) : BRl v f nb M' (tkS s x y g) := by
  intro z hz
  obtain ⟨b0, b1, b2, b3, b4, b5, b6⟩ := hB z hz
  have hY := (hB y hy).2.2.2.2.2.2
  refine ⟨(h1 _ _ (by omega) (by omega) (by omega)).trans b0, (h1 _ _ (by omega) (by omega) (by omega)).trans b1, (h1 _ _ (by omega) (by omega) (by omega)).trans b2, (h1 _ _ (by omega) (by omega) (by omega)).trans b3, ?_, ?_, fun q hq j hj => ?_⟩
  · show M' (12 + 18 * z) 4 = nI (us s.2.2.1 x (s.2.2.1 x + s.2.2.1 y) z)
    by_cases e : z = x
    · rw [e, us_s]
      exact h2
    · rw [us_o e]
      exact (h1 _ _ (by omega) (by omega) (by omega)).trans b4
  · show M' (12 + 18 * z) 5 = bI (us s.2.2.2.1 y true z)
    by_cases e : z = y
    · rw [e, us_s]
      exact h3
    · rw [us_o e]
      exact (h1 _ _ (by omega) (by omega) (by omega)).trans b5
  · have hj' : j < us s.2.2.1 x (s.2.2.1 x + s.2.2.1 y) z := hj
    show M' (12 + 18 * z + 1 + q) j = us s.2.2.2.2 x (apO (s.2.2.2.2 x) (s.2.2.1 x) (s.2.2.2.2 y) g) z q j
    by_cases e : z = x
    · rw [e] at b6 hj' ⊢
      rw [us_s] at hj' ⊢
      unfold apO
      by_cases e2 : j < s.2.2.1 x
      · rw [if_pos e2, h1 _ _ (by omega) (by omega) (by omega)]
        exact b6 q hq j e2
      · rw [if_neg e2]
        have := h4 q hq (j - s.2.2.1 x) (by omega)
        rw [Nat.add_sub_cancel' (by omega)] at this
        rw [this]
        by_cases e3 : q = 5
        · rw [if_pos e3, if_pos e3]
        · rw [if_neg e3, if_neg e3]
          exact hY q hq _ (by omega)
    · rw [us_o e] at hj' ⊢
      rw [h1 _ _ (by omega) (by omega) (by omega)]
      exact b6 q hq j hj'
theorem BRl_jm {w : Nat} (hB : BRl v f nb M s) (hx : x < nb) : BRl v f nb (stM (stM M (12 + 18 * x) 0 1) (12 + 18 * x) 2 (nI w)) (jmS s x w) := by
  intro z hz
  obtain ⟨b0, b1, b2, b3, b4, b5, b6⟩ := hB z hz
  refine ⟨?_, ?_, ?_, ?_, ?_, ?_, fun q hq j hj => ?_⟩
  · show _ = us s.1 x 1 z
    rw [stM_n (by omega)]
    by_cases e : z = x
    · rw [e, us_s, stM_s]
    · rw [us_o e, stM_n (by omega)]
      exact b0
  · rw [stM_n (by omega), stM_n (by omega)]
    exact b1
  · show _ = nI (us s.2.1 x w z)
    by_cases e : z = x
    · rw [e, us_s, stM_s]
    · rw [us_o e, stM_n (by omega), stM_n (by omega)]
      exact b2
  · rw [stM_n (by omega), stM_n (by omega)]
    exact b3
  · rw [stM_n (by omega), stM_n (by omega)]
    exact b4
  · rw [stM_n (by omega), stM_n (by omega)]
    exact b5
  · rw [stM_n (by omega), stM_n (by omega)]
    exact b6 q hq j hj
theorem c89 (hκ : Rd κ) (hnb6 : nb ≤ 6) (hB : BRl v f nb M s) (hI : SIv v f nb s) (hx : x < nb) (hy : y < nb) : Run 89 (0, entL 89 [.ref 3, .int (nI nb), .int (nI x), .int (nI y)], [], M, κ) (.inl (some (.int (bI (mtk v f nb s x y)))), M, κ) := by
  have hB0 : ∀ z, z < nb → M (12 + 18 * z) 0 = s.1 z := fun z hz => (hB z hz).1
  have hB1 : ∀ z, z < nb → M (12 + 18 * z) 1 = v z := fun z hz => (hB z hz).2.1
  have hB2 : ∀ z, z < nb → M (12 + 18 * z) 2 = nI (s.2.1 z) := fun z hz => (hB z hz).2.2.1
  have hB3 : ∀ z, z < nb → M (12 + 18 * z) 3 = nI (f z) := fun z hz => (hB z hz).2.2.2.1
  have hB5 : ∀ z, z < nb → M (12 + 18 * z) 5 = bI (s.2.2.2.1 z) := fun z hz => (hB z hz).2.2.2.2.2.1
  have hY := hB y hy
  have hYc := (hI.1 y hy).2.2.2.2.1
  refine RT_run (S89_0 (z := 0) (r_12 := anyN (fun k => decide (¬ s.2.2.2.2 y 5 k = 0)) (s.2.2.1 y)) (r_27 := anyN (fun k => decide (wr (s.2.2.2.2 y) k = v x)) (s.2.2.1 y)) hκ hx hy hnb6 (by omega) hB0 hB1 hB2 hB3 hB5 (fun _ _ => c7 hκ (bl_b (by omega)) hYc hY.2.2.2.2.1 hY.2.2.2.2.2.2) (fun _ _ _ => c8 hκ (bl_b (by omega)) hYc hY.2.2.2.2.1 hY.2.2.2.2.2.2) (fun h => ?_) (fun a1 a2 a3 a4 => ?_))
  · have : mtk v f nb s x y = false := by
      unfold mtk
      rcases h with h | ⟨_, h⟩ | ⟨_, _, h⟩ | ⟨_, _, _, h⟩
      · rw [decide_eq_true h]
        rfl
      · rw [decide_eq_true h]
        simp
      · rw [h]
        simp
      · rw [h]
        simp
    rw [this]
    rfl
  · have em : mtk v f nb s x y = !anyN (fun z => !decide (z = x) && (!s.2.2.2.1 z && comF (s.1 z) (nI (s.2.1 z)) (nI (f z)) (nI y))) nb := by
      unfold mtk
      rw [decide_eq_false a1, decide_eq_false a2, Bool.eq_false_iff.mpr a3, Bool.eq_false_iff.mpr a4]
      rfl
    rw [em]
    refine loopI (n := nb) (fun z (_ : Unit) => RT 89 (38, [.ref 3, .int (nI nb), .int (nI x), .int (nI y), .int (nI z)], [], M, κ) _) (fun z _ => anyN (fun z => !decide (z = x) && (!s.2.2.2.1 z && comF (s.1 z) (nI (s.2.1 z)) (nI (f z)) (nI y))) z = false) (fun z u hz hJ ih => ?_) (fun u hJ => ?_) 0 () (Nat.zero_le _) rfl
    · refine S89_38 hκ hx hy hnb6 (by omega) hB0 hB1 hB2 hB3 hB5 (fun _ h => ih () ?_) (fun _ b1 b2 b3 => ?_) (fun c => absurd hz c)
      · rw [anyN, hJ, Bool.false_or]
        rcases h with h | ⟨_, h⟩ | ⟨_, _, h⟩
        · rw [decide_eq_true h]
          rfl
        · rw [h]
          simp
        · rw [Bool.eq_false_iff.mpr h]
          simp
      · rw [anyN_of hz (by rw [decide_eq_false b1, Bool.eq_false_iff.mpr b2, b3]; rfl)]
        rfl
    · refine S89_38 hκ hx hy hnb6 (Nat.le_refl _) hB0 hB1 hB2 hB3 hB5 (fun c => absurd c (Nat.lt_irrefl _)) (fun c => absurd c (Nat.lt_irrefl _)) (fun _ => ?_)
      rw [hJ]
      rfl
/-- what guarding leaves alone in the class -/
def fr88 (M0 M : Mem) : Prop := ∀ o j, (o < 12 ∨ 108 < o) → M o j = M0 o j
def frB (M0 M : Mem) : Prop := ∀ o j, ¬ (∃ z, z < 6 ∧ 12 + 18 * z ≤ o ∧ o ≤ 12 + 18 * z + 6) → M o j = M0 o j
theorem frB_of {o : Nat} (h : o < 12 ∨ 109 ≤ o ∨ ∃ z, z < 6 ∧ (19 + 18 * z ≤ o ∧ o ≤ 29 + 18 * z)) : ¬ (∃ z, z < 6 ∧ 12 + 18 * z ≤ o ∧ o ≤ 12 + 18 * z + 6) := by
  rintro ⟨z, h1, h2, h3⟩
  rcases h with h | h | ⟨w, h4, h5, h6⟩ <;> omega
theorem f88 (hκ : Rd κ) (hnb6 : nb ≤ 6) (hB : BRl v f nb M0 s) (hI : SIv v f nb s) (hx : x < nb) (hex : s.1 x = 2) (hne : ¬ s.2.1 x = f x)
    (K : ∀ M, frB M0 M → BRl v f nb M (gbB v f nb s x) → Q (.inl none, M, κ)) : RT 88 (0, entL 88 [.ref 3, .int (nI nb), .int (nI x)], [], M0, κ) Q := by
  have hX := hI.1 x hx
  have ht : s.2.1 x < nb := hX.1 (by rw [hex]; decide)
  have hu : f x < nb := hX.2.1 hex
  have hT := hI.1 _ ht
  have hU := hI.1 _ hu
  have bX := hB x hx
  have bT := hB _ ht
  have bU := hB _ hu
  refine S88_0 (et := s.1 (s.2.1 x)) (eu := s.1 (f x)) (r_65 := mtk v f nb s x (f x)) (r_36 := mtk v f nb s x (s.2.1 x)) hκ hx ht hu hnb6 bX.2.2.1 bX.2.2.2.1 bT.1 bU.1 (fun _ => c89 hκ hnb6 hB hI hx hu) (fun _ => c89 hκ hnb6 hB hI hx ht) ?_
  have ey : ∀ y, (if s.1 y = 1 then (if mtk v f nb s x y = true then true else false) else false) = tky v f nb s x y := fun y => by
    unfold tky
    cases mtk v f nb s x y <;> rfl
  rw [ey, ey]
  unfold gbB at K
  have tkne : ∀ y, tky v f nb s x y = true → ¬ y = x := fun y h => by
    unfold tky at h
    by_cases q : s.1 y = 1
    · rw [if_pos q] at h
      exact (mtk_iff.mp h).2.1
    · rw [if_neg q] at h
      cases h
  have fz : ∀ {M1 : Mem} {y : Nat}, y < nb → (∀ o j, ¬ (o = 12 + 18 * x ∧ j = 4) → ¬ (o = 12 + 18 * y ∧ j = 5) → ¬ (12 + 18 * x + 1 ≤ o ∧ o ≤ 12 + 18 * x + 6 ∧ s.2.2.1 x ≤ j ∧ j < s.2.2.1 x + s.2.2.1 y) → M1 o j = M0 o j) → frB M0 M1 := fun {M1 y} hy h o j hno => h o j (fun c => hno ⟨x, by omega, by omega, by omega⟩) (fun c => hno ⟨y, by omega, by omega, by omega⟩) (fun c => hno ⟨x, by omega, by omega, by omega⟩)
  have fj : ∀ {M1 : Mem} {w : Nat}, frB M0 M1 → frB M0 (stM (stM M1 (12 + 18 * x) 0 1) (12 + 18 * x) 2 (nI w)) := fun {M1 w} h o j hno => by
    have hnx : ¬ o = 12 + 18 * x := fun c => hno ⟨x, by omega, by omega, by omega⟩
    rw [stM_n (fun c => hnx c.1), stM_n (fun c => hnx c.1)]
    exact h o j hno
  -- the third
  have third : (¬ (tky v f nb s x (s.2.1 x) = true ∧ tky v f nb s x (f x) = true ∧ s.2.1 (s.2.1 x) = s.2.1 (f x) ∧ s.2.2.1 x + s.2.2.1 (s.2.1 x) + s.2.2.1 (f x) ≤ 10)) → (¬ (tky v f nb s x (s.2.1 x) = true ∧ s.2.1 (s.2.1 x) = f x ∧ s.2.2.1 x + s.2.2.1 (s.2.1 x) ≤ 10)) → RT 88 (217, [UU, UU, UU, .ref (12 + 18 * x), UU, .ref (12 + 18 * f x), UU, .int (bI (tky v f nb s x (f x))), UU], [], M0, κ) Q := by
    intro q1 q2
    rw [if_neg q1, if_neg q2] at K
    refine S88_217 (t := s.2.1 x) hκ hx ht hu hnb6 hX.2.2.2.2.1 hT.2.2.2.2.1 hU.2.2.2.2.1 (by have := hT.2.2.1; omega) (by have := hU.2.2.1; omega) bX.2.1 bX.2.2.1 bX.2.2.2.1 bT.2.2.1 bU.2.2.1 bX.2.2.2.2.1 bT.2.2.2.2.1 bU.2.2.2.2.1 (fun h => ?_) (fun a1 a2 a3 => ?_)
    · rw [if_neg (by
        rintro ⟨c1, c2, c3⟩
        rcases h with h | h | h
        · omega
        · exact h.2 c2
        · exact h c1)] at K
      exact K M0 (fun _ _ _ => rfl) hB
    · rw [if_pos ⟨a1, a2, by omega⟩] at K
      refine f4 hκ (bl_b (by omega)) (bl_b (by omega)) (by have := tkne _ a1; omega) (by omega) bX.2.2.2.2.1 bU.2.2.2.2.1 (fun M1 k1 k2 k3 k4 => ⟨none, M1, κ, rfl, ?_⟩)
      have hB1 := BRl_tk hB hx hu (tkne _ a1) k1 k2 k3 k4
      have bX1 := hB1 x hx
      refine w_weak (lle_u (lle_u (lle_u (lle_s (lle_u (lle_u (lle_u (lle_u (lle_u lle_n))))))))) (S88_261 hκ (by omega) bX1.2.2.1 bX1.2.2.2.1 (S5_0 hκ (bl_b (by omega)) ⟨none, _, κ, rfl, ?_⟩))
      exact w_weak (lle_u (lle_u (lle_u (lle_u (lle_u (lle_u (lle_u (lle_u (lle_u lle_n))))))))) (S88_269 (x := x) hκ (by omega) (K _ (fj (fz hu k1)) (BRl_jm hB1 hx)))
  -- the second
  have second : (¬ (tky v f nb s x (s.2.1 x) = true ∧ tky v f nb s x (f x) = true ∧ s.2.1 (s.2.1 x) = s.2.1 (f x) ∧ s.2.2.1 x + s.2.2.1 (s.2.1 x) + s.2.2.1 (f x) ≤ 10)) → RT 88 (162, [UU, UU, UU, .ref (12 + 18 * x), .ref (12 + 18 * s.2.1 x), .ref (12 + 18 * f x), .int (bI (tky v f nb s x (s.2.1 x))), .int (bI (tky v f nb s x (f x))), UU], [], M0, κ) Q := by
    intro q1
    refine S88_162 hκ hx ht hu hnb6 hX.2.2.2.2.1 hT.2.2.2.2.1 hU.2.2.2.2.1 (by have := hT.2.2.1; omega) (by have := hU.2.2.1; omega) bX.2.1 bX.2.2.1 bX.2.2.2.1 bT.2.2.1 bU.2.2.1 bX.2.2.2.2.1 bT.2.2.2.2.1 bU.2.2.2.2.1 (fun a1 a2 a3 => third q1 (fun c => by omega)) (fun a1 a2 a3 => ?_) (fun a1 a2 => third q1 (fun c => a2 c.2.1)) (fun a1 => third q1 (fun c => a1 c.1))
    rw [if_neg q1, if_pos ⟨a1, a2, by omega⟩] at K
    refine f4 hκ (bl_b (by omega)) (bl_b (by omega)) (by have := tkne _ a1; omega) (by omega) bX.2.2.2.2.1 bT.2.2.2.2.1 (fun M1 k1 k2 k3 k4 => ⟨none, M1, κ, rfl, ?_⟩)
    have hB1 := BRl_tk hB hx ht (tkne _ a1) k1 k2 k3 k4
    have bX1 := hB1 x hx
    refine w_weak (lle_u (lle_u (lle_u (lle_s (lle_u (lle_u (lle_u (lle_u (lle_u lle_n))))))))) (S88_206 hκ (by omega) bX1.2.2.1 bX1.2.2.2.1 (S5_0 hκ (bl_b (by omega)) ⟨none, _, κ, rfl, ?_⟩))
    exact w_weak (lle_u (lle_u (lle_u (lle_u (lle_u (lle_u (lle_u (lle_u (lle_u lle_n))))))))) (S88_214 (x := x) hκ (by omega) (K _ (fj (fz ht k1)) (BRl_jm hB1 hx)))
  refine S88_78 hκ hx ht hu hnb6 hX.2.2.2.2.1 hT.2.2.2.2.1 hU.2.2.2.2.1 (by have := hT.2.2.1; omega) (by have := hU.2.2.1; omega) bX.2.1 bX.2.2.1 bX.2.2.2.1 bT.2.2.1 bU.2.2.1 bX.2.2.2.2.1 bT.2.2.2.2.1 bU.2.2.2.2.1 (fun a1 a2 a3 a4 => second (fun c => by omega)) (fun a1 a2 a3 a4 => ?_) (fun a1 a2 a3 => second (fun c => a3 c.2.2.1)) (fun a1 a2 => second (fun c => a2 c.2.1)) (fun a1 => second (fun c => a1 c.1))
  rw [if_pos ⟨a1, a2, a3, by omega⟩] at K
  have nT := tkne _ a1
  have nU := tkne _ a2
  refine f4 hκ (bl_b (by omega)) (bl_b (by omega)) (by omega) (by omega) bX.2.2.2.2.1 bT.2.2.2.2.1 (fun M1 k1 k2 k3 k4 => ⟨none, M1, κ, rfl, ?_⟩)
  have hB1 := BRl_tk hB hx ht nT k1 k2 k3 k4
  have bX1 := hB1 x hx
  have bU1 := hB1 _ hu
  refine w_weak (lle_u (lle_u (lle_u (lle_s (lle_u (lle_s (lle_u (lle_u (lle_s lle_n))))))))) (S88_141 hκ (by omega) (by omega) bX1.2.1 (by have := hT.2.2.1; omega) ?_)
  have ecx : (tkS s x (s.2.1 x) (1 + v x)).2.2.1 x = s.2.2.1 x + s.2.2.1 (s.2.1 x) := us_s
  have ecu : (tkS s x (s.2.1 x) (1 + v x)).2.2.1 (f x) = s.2.2.1 (f x) := us_o nU
  refine f4 (n := (tkS s x (s.2.1 x) (1 + v x)).2.2.1 x) (n2 := (tkS s x (s.2.1 x) (1 + v x)).2.2.1 (f x)) hκ (bl_b (by omega)) (bl_b (by omega)) (by omega) (by rw [ecx, ecu]; omega) bX1.2.2.2.2.1 bU1.2.2.2.2.1 (fun M2 j1 j2 j3 j4 => ⟨none, M2, κ, rfl, ?_⟩)
  have hB2 := BRl_tk hB1 hx hu nU j1 j2 j3 j4
  have f2' : frB M0 M2 := fun o j hno => (j1 o j (fun c => hno ⟨x, by omega, by omega, by omega⟩) (fun c => hno ⟨f x, by omega, by omega, by omega⟩) (fun c => hno ⟨x, by omega, by omega, by omega⟩)).trans (fz ht k1 o j hno)
  refine w_weak (lle_u (lle_u (lle_u (lle_s (lle_u (lle_u (lle_u (lle_u (lle_s lle_n))))))))) (S88_153 hκ (by omega) (by have := hT.2.2.1; omega) (S5_0 hκ (bl_b (by omega)) ⟨none, _, κ, rfl, ?_⟩))
  exact w_weak (lle_u (lle_u (lle_u (lle_u (lle_u (lle_u (lle_u (lle_u (lle_u lle_n))))))))) (S88_159 (x := x) hκ (by omega) (K _ (fj f2') (BRl_jm hB2 hx)))
theorem f87 (hκ : Rd κ) (hnb6 : nb ≤ 6) (hB : BRl v f nb M0 s) (hI : SIv v f nb s)
    (K : ∀ M, frB M0 M → BRl v f nb M (fo (fun x s => gbS v f nb s x) s nb) → Q (.inl none, M, κ)) : RT 87 (0, entL 87 [.ref 3, .int (nI nb)], [], M0, κ) Q := by
  have pre : ∀ {M s}, BRl v f nb M s → SIv v f nb s → (∀ z, z < nb → M (12 + 18 * z) 0 = s.1 z) ∧ (∀ z, z < nb → M (12 + 18 * z) 1 = v z) ∧ (∀ z, z < nb → M (12 + 18 * z) 2 = nI (s.2.1 z)) ∧ (∀ z, z < nb → M (12 + 18 * z) 3 = nI (f z)) ∧ (∀ z, z < nb → M (12 + 18 * z) 5 = bI (s.2.2.2.1 z)) ∧ (∀ z, z < nb → s.2.1 z < 6 ∧ f z < 6) := fun hB hI => ⟨fun z hz => (hB z hz).1, fun z hz => (hB z hz).2.1, fun z hz => (hB z hz).2.2.1, fun z hz => (hB z hz).2.2.2.1, fun z hz => (hB z hz).2.2.2.2.2.1, fun z hz => ⟨(hI.1 z hz).2.2.1, (hI.1 z hz).2.2.2.1⟩⟩
  obtain ⟨p0, p1, p2, p3, p5, p6⟩ := pre hB hI
  refine S87_0 (x := 0) hκ (by omega) hnb6 p0 p1 p2 p3 p5 (p6 0) ?_
  refine loopI (n := nb) (fun x M => RT 87 (2, [.ref 3, .int (nI nb), .int (nI x), UU], [], M, κ) Q) (fun x M => frB M0 M ∧ BRl v f nb M (fo (fun x s => gbS v f nb s x) s x)) (fun x M hx hJ ih => ?_) (fun M hJ => ?_) 0 M0 (Nat.zero_le _) ⟨fun _ _ _ => rfl, hB⟩
  · obtain ⟨h1, h2⟩ := hJ
    have hS := SIv_all hnb6 hI x (by omega)
    rw [show fo (fun x s => gbS v f nb s x) s (x + 1) = gbS v f nb (fo (fun x s => gbS v f nb s x) s x) x from rfl] at ih
    generalize fo (fun x s => gbS v f nb s x) s x = s' at h2 hS ih
    obtain ⟨p0, p1, p2, p3, p5, p6⟩ := pre h2 hS
    unfold gbS at ih
    refine S87_2 hκ (by omega) hnb6 p0 p1 p2 p3 p5 (p6 x) (fun _ h => ih M ⟨h1, ?_⟩) (fun _ a1 a2 a3 => ?_) (fun c => absurd hx c)
    · rw [if_pos (by
        rcases h with h | h | h
        · exact .inl h
        · exact .inr (.inr h.2.2)
        · exact .inr (.inl h.2))]
      exact h2
    · rw [if_neg (by
        rintro (c | c | c)
        · exact a1 c
        · exact c a2
        · exact a3 c)] at ih
      refine f88 hκ hnb6 h2 hS hx a2 a3 (fun M1 k1 k2 => ⟨none, M1, κ, rfl, ?_⟩)
      exact w_weak (lle_s (lle_s (lle_s (lle_u lle_n)))) (S87_43 hκ (by omega) (ih M1 ⟨fun o j h => (k1 o j h).trans (h1 o j h), k2⟩))
  · obtain ⟨h1, h2⟩ := hJ
    obtain ⟨p0, p1, p2, p3, p5, p6⟩ := pre h2 (SIv_all hnb6 hI nb (Nat.le_refl _))
    exact S87_2 hκ (Nat.le_refl _) hnb6 p0 p1 p2 p3 p5 (p6 nb) (fun c => absurd c (Nat.lt_irrefl _)) (fun c => absurd c (Nat.lt_irrefl _)) (fun _ => K M h1 h2)
end GP
end P_43_guard
