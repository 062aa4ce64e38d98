/-! block and operation, on both sides -/
section P_54_tell
theorem i_99_110 : ins 99 110 = some (.bipush 10, 112, 0, 0, 0, 10) := rfl
theorem i_99_112 : ins 99 112 = some (.aload_n 0, 113, 0, 0, 0, 0) := rfl
theorem i_99_113 : ins 99 113 = some (.getfield 174, 116, 7, 7, 0, 0) := rfl
theorem i_99_116 : ins 99 116 = some (.iconst 1, 117, 0, 0, 0, 1) := rfl
theorem i_99_117 : ins 99 117 = some (.isub, 118, 0, 0, 0, 0) := rfl
theorem i_99_118 : ins 99 118 = some (.imul, 119, 0, 0, 0, 0) := rfl
theorem i_99_119 : ins 99 119 = some (.aload_n 0, 120, 0, 0, 0, 0) := rfl
theorem i_99_120 : ins 99 120 = some (.getfield 41, 123, 7, 12, 0, 0) := rfl
theorem i_99_123 : ins 99 123 = some (.aload_n 0, 124, 0, 0, 0, 0) := rfl
theorem i_99_124 : ins 99 124 = some (.getfield 174, 127, 7, 7, 0, 0) := rfl
theorem i_99_127 : ins 99 127 = some (.iconst 1, 128, 0, 0, 0, 1) := rfl
theorem i_99_128 : ins 99 128 = some (.isub, 129, 0, 0, 0, 0) := rfl
theorem i_99_129 : ins 99 129 = some (.iaload, 130, 0, 0, 0, 0) := rfl
theorem i_99_130 : ins 99 130 = some (.iadd, 131, 0, 0, 0, 0) := rfl
theorem i_99_131 : ins 99 131 = some (.istore 8, 133, 8, 0, 0, 0) := rfl
theorem i_99_133 : ins 99 133 = some (.aload_n 0, 134, 0, 0, 0, 0) := rfl
theorem i_99_134 : ins 99 134 = some (.getfield 44, 137, 7, 13, 0, 0) := rfl
theorem i_99_137 : ins 99 137 = some (.iload 8, 139, 8, 0, 0, 0) := rfl
theorem i_99_139 : ins 99 139 = some (.iload_n 1, 140, 1, 0, 0, 0) := rfl
theorem i_99_140 : ins 99 140 = some (.iastore, 141, 0, 0, 0, 0) := rfl
theorem i_99_141 : ins 99 141 = some (.aload_n 0, 142, 0, 0, 0, 0) := rfl
theorem i_99_142 : ins 99 142 = some (.getfield 47, 145, 7, 14, 0, 0) := rfl
theorem i_99_145 : ins 99 145 = some (.iload 8, 147, 8, 0, 0, 0) := rfl
theorem i_99_147 : ins 99 147 = some (.iload_n 2, 148, 2, 0, 0, 0) := rfl
theorem i_99_148 : ins 99 148 = some (.iastore, 149, 0, 0, 0, 0) := rfl
theorem i_99_149 : ins 99 149 = some (.aload_n 0, 150, 0, 0, 0, 0) := rfl
theorem i_99_150 : ins 99 150 = some (.getfield 50, 153, 7, 15, 0, 0) := rfl
theorem i_99_153 : ins 99 153 = some (.iload 8, 155, 8, 0, 0, 0) := rfl
theorem i_99_155 : ins 99 155 = some (.iload_n 3, 156, 3, 0, 0, 0) := rfl
theorem i_99_156 : ins 99 156 = some (.iastore, 157, 0, 0, 0, 0) := rfl
theorem i_99_157 : ins 99 157 = some (.aload_n 0, 158, 0, 0, 0, 0) := rfl
theorem i_99_158 : ins 99 158 = some (.getfield 53, 161, 7, 16, 0, 0) := rfl
theorem i_99_161 : ins 99 161 = some (.iload 8, 163, 8, 0, 0, 0) := rfl
theorem i_99_163 : ins 99 163 = some (.iload 4, 165, 4, 0, 0, 0) := rfl
theorem i_99_165 : ins 99 165 = some (.iastore, 166, 0, 0, 0, 0) := rfl
theorem i_99_166 : ins 99 166 = some (.aload_n 0, 167, 0, 0, 0, 0) := rfl
theorem i_99_167 : ins 99 167 = some (.getfield 56, 170, 7, 17, 0, 0) := rfl
theorem i_99_170 : ins 99 170 = some (.iload 8, 172, 8, 0, 0, 0) := rfl
theorem i_99_172 : ins 99 172 = some (.iload 5, 174, 5, 0, 0, 0) := rfl
theorem i_99_174 : ins 99 174 = some (.iastore, 175, 0, 0, 0, 0) := rfl
theorem i_99_175 : ins 99 175 = some (.aload_n 0, 176, 0, 0, 0, 0) := rfl
theorem i_99_176 : ins 99 176 = some (.getfield 59, 179, 7, 18, 0, 0) := rfl
theorem i_99_179 : ins 99 179 = some (.iload 8, 181, 8, 0, 0, 0) := rfl
theorem i_99_181 : ins 99 181 = some (.iload 6, 183, 6, 0, 0, 0) := rfl
theorem i_99_183 : ins 99 183 = some (.iastore, 184, 0, 0, 0, 0) := rfl
theorem i_99_184 : ins 99 184 = some (.aload_n 0, 185, 0, 0, 0, 0) := rfl
theorem i_99_185 : ins 99 185 = some (.getfield 41, 188, 7, 12, 0, 0) := rfl
theorem i_99_188 : ins 99 188 = some (.aload_n 0, 189, 0, 0, 0, 0) := rfl
theorem i_99_189 : ins 99 189 = some (.getfield 174, 192, 7, 7, 0, 0) := rfl
theorem i_99_192 : ins 99 192 = some (.iconst 1, 193, 0, 0, 0, 1) := rfl
theorem i_99_193 : ins 99 193 = some (.isub, 194, 0, 0, 0, 0) := rfl
theorem i_99_194 : ins 99 194 = some (.dup2, 195, 0, 0, 0, 0) := rfl
theorem i_99_195 : ins 99 195 = some (.iaload, 196, 0, 0, 0, 0) := rfl
theorem i_99_196 : ins 99 196 = some (.iconst 1, 197, 0, 0, 0, 1) := rfl
theorem i_99_197 : ins 99 197 = some (.iadd, 198, 0, 0, 0, 0) := rfl
theorem i_99_198 : ins 99 198 = some (.iastore, 199, 0, 0, 0, 0) := rfl
theorem i_99_199 : ins 99 199 = some (.aload_n 0, 200, 0, 0, 0, 0) := rfl
theorem i_99_200 : ins 99 200 = some (.iconst 0, 201, 0, 0, 0, 0) := rfl
theorem i_99_201 : ins 99 201 = some (.putfield 170, 204, 7, 19, 0, 0) := rfl
theorem i_99_204 : ins 99 204 = some (.aload_n 0, 205, 0, 0, 0, 0) := rfl
theorem i_99_205 : ins 99 205 = some (.getfield 41, 208, 7, 12, 0, 0) := rfl
theorem i_99_208 : ins 99 208 = some (.aload_n 0, 209, 0, 0, 0, 0) := rfl
theorem i_99_209 : ins 99 209 = some (.getfield 174, 212, 7, 7, 0, 0) := rfl
theorem i_99_212 : ins 99 212 = some (.iconst 1, 213, 0, 0, 0, 1) := rfl
theorem i_99_213 : ins 99 213 = some (.isub, 214, 0, 0, 0, 0) := rfl
theorem i_99_214 : ins 99 214 = some (.iaload, 215, 0, 0, 0, 0) := rfl
theorem i_99_215 : ins 99 215 = some (.iconst 1, 216, 0, 0, 0, 1) := rfl
theorem i_99_216 : ins 99 216 = some (.isub, 217, 0, 0, 0, 0) := rfl
theorem i_99_217 : ins 99 217 = some (.ireturn, 218, 0, 0, 0, 0) := rfl
theorem S99_110 {Q : Ou → Prop} {M : Mem} {κ : Kp} (hκ : Rd κ) {q n : Nat} (hq : q < 6) (hn : n < 10) (hnb : M 134 7 = nI (q + 1)) (hc : M 139 q = nI n) {p0 : Int32} {p1 : Int32} {p2 : Int32} {p3 : Int32} {p4 : Int32} {p5 : Int32}
    (k1 : Q (.inl (some (.int ((nI (n + 1)) - 1))), (stM (stM (stM (stM (stM (stM (stM (stM M 140 ((10 * q) + n) p0) 141 ((10 * q) + n) p1) 142 ((10 * q) + n) p2) 143 ((10 * q) + n) p3) 144 ((10 * q) + n) p4) 145 ((10 * q) + n) p5) 139 q (nI (n + 1))) 134 19 0), κ))
    : RT 99 (110, [.ref 134, .int p0, .int p1, .int p2, .int p3, .int p4, .int p5, UU, UU], [], M, κ) Q := by
  refine w_push i_99_110 rfl ?_
  refine w_load i_99_112 rfl rfl ?_
  refine w_getI (v := (nI (q + 1))) i_99_113 hκ (⟨rfl, by decide⟩ : isOb 134 7) rfl (hnb) ?_
  refine w_push i_99_116 rfl ?_
  refine w_bin (w := (nI q)) i_99_117 rfl (nI_pred q) ?_
  refine w_bin (w := (nI (10 * q))) i_99_118 rfl (nI_mul 10 q) ?_
  refine w_load i_99_119 rfl rfl ?_
  refine w_getR 139 i_99_120 hκ (⟨rfl, by decide⟩ : isOb 134 7) rfl rfl ?_
  refine w_load i_99_123 rfl rfl ?_
  refine w_getI (v := (nI (q + 1))) i_99_124 hκ (⟨rfl, by decide⟩ : isOb 134 7) rfl (hnb) ?_
  refine w_push i_99_127 rfl ?_
  refine w_bin (w := (nI q)) i_99_128 rfl (nI_pred q) ?_
  refine w_ialdN (e := q) (v := (nI n)) i_99_129 hκ (⟨rfl, rfl, by decide⟩ : isAr 139 6) (by omega) (by decide) (hc) ?_
  refine w_bin (w := (nI ((10 * q) + n))) i_99_130 rfl (nI_add (10 * q) n) ?_
  refine w_store (l1 := [.ref 134, .int p0, .int p1, .int p2, .int p3, .int p4, .int p5, UU, .int (nI ((10 * q) + n))]) i_99_131 rfl (Nat.le_of_ble_eq_true rfl) rfl ?_
  refine w_load i_99_133 rfl rfl ?_
  refine w_getR 140 i_99_134 hκ (⟨rfl, by decide⟩ : isOb 134 7) rfl rfl ?_
  refine w_load i_99_137 rfl rfl ?_
  refine w_load i_99_139 rfl rfl ?_
  refine w_iastN (e := ((10 * q) + n)) i_99_140 hκ (⟨rfl, rfl, by decide⟩ : isAr 140 60) (by omega) (by decide) ?_
  refine w_load i_99_141 rfl rfl ?_
  refine w_getR 141 i_99_142 hκ (⟨rfl, by decide⟩ : isOb 134 7) rfl rfl ?_
  refine w_load i_99_145 rfl rfl ?_
  refine w_load i_99_147 rfl rfl ?_
  refine w_iastN (e := ((10 * q) + n)) i_99_148 hκ (⟨rfl, rfl, by decide⟩ : isAr 141 60) (by omega) (by decide) ?_
  refine w_load i_99_149 rfl rfl ?_
  refine w_getR 142 i_99_150 hκ (⟨rfl, by decide⟩ : isOb 134 7) rfl rfl ?_
  refine w_load i_99_153 rfl rfl ?_
  refine w_load i_99_155 rfl rfl ?_
  refine w_iastN (e := ((10 * q) + n)) i_99_156 hκ (⟨rfl, rfl, by decide⟩ : isAr 142 60) (by omega) (by decide) ?_
  refine w_load i_99_157 rfl rfl ?_
  refine w_getR 143 i_99_158 hκ (⟨rfl, by decide⟩ : isOb 134 7) rfl rfl ?_
  refine w_load i_99_161 rfl rfl ?_
  refine w_load i_99_163 rfl rfl ?_
  refine w_iastN (e := ((10 * q) + n)) i_99_165 hκ (⟨rfl, rfl, by decide⟩ : isAr 143 60) (by omega) (by decide) ?_
  refine w_load i_99_166 rfl rfl ?_
  refine w_getR 144 i_99_167 hκ (⟨rfl, by decide⟩ : isOb 134 7) rfl rfl ?_
  refine w_load i_99_170 rfl rfl ?_
  refine w_load i_99_172 rfl rfl ?_
  refine w_iastN (e := ((10 * q) + n)) i_99_174 hκ (⟨rfl, rfl, by decide⟩ : isAr 144 60) (by omega) (by decide) ?_
  refine w_load i_99_175 rfl rfl ?_
  refine w_getR 145 i_99_176 hκ (⟨rfl, by decide⟩ : isOb 134 7) rfl rfl ?_
  refine w_load i_99_179 rfl rfl ?_
  refine w_load i_99_181 rfl rfl ?_
  refine w_iastN (e := ((10 * q) + n)) i_99_183 hκ (⟨rfl, rfl, by decide⟩ : isAr 145 60) (by omega) (by decide) ?_
  refine w_load i_99_184 rfl rfl ?_
  refine w_getR 139 i_99_185 hκ (⟨rfl, by decide⟩ : isOb 134 7) rfl rfl ?_
  refine w_load i_99_188 rfl rfl ?_
  refine w_getI (v := (nI (q + 1))) i_99_189 hκ (⟨rfl, by decide⟩ : isOb 134 7) rfl ((stM_o (by decide)).trans ((stM_o (by decide)).trans ((stM_o (by decide)).trans ((stM_o (by decide)).trans ((stM_o (by decide)).trans ((stM_o (by decide)).trans (hnb))))))) ?_
  refine w_push i_99_192 rfl ?_
  refine w_bin (w := (nI q)) i_99_193 rfl (nI_pred q) ?_
  refine w_dup2 i_99_194 rfl rfl ?_
  refine w_ialdN (e := q) (v := (nI n)) i_99_195 hκ (⟨rfl, rfl, by decide⟩ : isAr 139 6) (by omega) (by decide) ((stM_o (by decide)).trans ((stM_o (by decide)).trans ((stM_o (by decide)).trans ((stM_o (by decide)).trans ((stM_o (by decide)).trans ((stM_o (by decide)).trans (hc))))))) ?_
  refine w_push i_99_196 rfl ?_
  refine w_bin (w := (nI (n + 1))) i_99_197 rfl (nI_add n 1) ?_
  refine w_iastN (e := q) i_99_198 hκ (⟨rfl, rfl, by decide⟩ : isAr 139 6) (by omega) (by decide) ?_
  refine w_load i_99_199 rfl rfl ?_
  refine w_push i_99_200 rfl ?_
  refine w_putI i_99_201 hκ (⟨rfl, by decide⟩ : isOb 134 7) rfl (fun _ => rfl) ?_
  refine w_load i_99_204 rfl rfl ?_
  refine w_getR 139 i_99_205 hκ (⟨rfl, by decide⟩ : isOb 134 7) rfl rfl ?_
  refine w_load i_99_208 rfl rfl ?_
  refine w_getI (v := (nI (q + 1))) i_99_209 hκ (⟨rfl, by decide⟩ : isOb 134 7) rfl ((stM_j (by decide)).trans ((stM_o (by decide)).trans ((stM_o (by decide)).trans ((stM_o (by decide)).trans ((stM_o (by decide)).trans ((stM_o (by decide)).trans ((stM_o (by decide)).trans ((stM_o (by decide)).trans (hnb))))))))) ?_
  refine w_push i_99_212 rfl ?_
  refine w_bin (w := (nI q)) i_99_213 rfl (nI_pred q) ?_
  refine w_ialdN (e := q) (v := (nI (n + 1))) i_99_214 hκ (⟨rfl, rfl, by decide⟩ : isAr 139 6) (by omega) (by decide) ((stM_o (by decide)).trans (stM_s)) ?_
  refine w_push i_99_215 rfl ?_
  refine w_bin (w := ((nI (n + 1)) - 1)) i_99_216 rfl rfl ?_
  exact w_iret i_99_217 (.inl rfl) (k1)
theorem T99_0 {Q : Ou → Prop} {M : Mem} {κ : Kp} (hκ : Rd κ) {q n : Nat} (hq : q < 6) (hn : n ≤ 10) (hnb : M 134 7 = nI (q + 1)) (hc : M 139 q = nI n) {p0 : Int32} {p1 : Int32} {p2 : Int32} {p3 : Int32} {p4 : Int32} {p5 : Int32}
    (k1 : 0 < (nI (if (if (outR p0 0 9) = true then true else (if (outR p1 0 11) = true then true else (if (outR p2 0 11) = true then true else (if (outR p3 0 11) = true then true else (if (outR p5 (-12) 12) = true then true else false))))) = true then 1 else (if (q + 1) = 0 then 2 else (if n = 10 then 2 else 0)))) → Q (.inl (some (.int 0)), (stM M 134 0 (nI (if (if (outR p0 0 9) = true then true else (if (outR p1 0 11) = true then true else (if (outR p2 0 11) = true then true else (if (outR p3 0 11) = true then true else (if (outR p5 (-12) 12) = true then true else false))))) = true then 1 else (if (q + 1) = 0 then 2 else (if n = 10 then 2 else 0))))), κ))
    (k2 : ¬ (0 < (nI (if (if (outR p0 0 9) = true then true else (if (outR p1 0 11) = true then true else (if (outR p2 0 11) = true then true else (if (outR p3 0 11) = true then true else (if (outR p5 (-12) 12) = true then true else false))))) = true then 1 else (if (q + 1) = 0 then 2 else (if n = 10 then 2 else 0))))) → RT 99 (110, [.ref 134, .int p0, .int p1, .int p2, .int p3, .int p4, .int p5, UU, UU], [], (stM M 134 0 (nI (if (if (outR p0 0 9) = true then true else (if (outR p1 0 11) = true then true else (if (outR p2 0 11) = true then true else (if (outR p3 0 11) = true then true else (if (outR p5 (-12) 12) = true then true else false))))) = true then 1 else (if (q + 1) = 0 then 2 else (if n = 10 then 2 else 0))))), κ) Q)
    : RT 99 (0, [.ref 134, .int p0, .int p1, .int p2, .int p3, .int p4, .int p5, UU, UU], [], M, κ) Q := by
  refine w_load i_99_0 rfl rfl ?_
  refine w_push i_99_1 rfl ?_
  refine w_push i_99_2 rfl ?_
  refine w_callS i_99_4 ⟨by decide, by decide, by decide, rfl, rfl⟩ (av := [.int p0, .int 0, .int 9]) (rest := []) rfl rfl (Nat.le_of_ble_eq_true rfl) (v := some (.int (bI (outR p0 0 9)))) (c95 hκ) ?_
  have K1 : RT 99 (58, [.ref 134, .int p0, .int p1, .int p2, .int p3, .int p4, .int p5, UU, UU], [.int (bI (if (outR p0 0 9) = true then true else (if (outR p1 0 11) = true then true else (if (outR p2 0 11) = true then true else (if (outR p3 0 11) = true then true else (if (outR p5 (-12) 12) = true then true else false))))))], M, κ) Q := by
    refine w_store (l1 := [.ref 134, .int p0, .int p1, .int p2, .int p3, .int p4, .int p5, .int (bI (if (outR p0 0 9) = true then true else (if (outR p1 0 11) = true then true else (if (outR p2 0 11) = true then true else (if (outR p3 0 11) = true then true else (if (outR p5 (-12) 12) = true then true else false)))))), UU]) i_99_58 rfl (Nat.le_of_ble_eq_true rfl) rfl ?_
    refine w_load i_99_60 rfl rfl ?_
    refine w_load i_99_61 rfl rfl ?_
    have K2 : RT 99 (98, [.ref 134, .int p0, .int p1, .int p2, .int p3, .int p4, .int p5, .int (bI (if (outR p0 0 9) = true then true else (if (outR p1 0 11) = true then true else (if (outR p2 0 11) = true then true else (if (outR p3 0 11) = true then true else (if (outR p5 (-12) 12) = true then true else false)))))), UU], [.int (nI (if (if (outR p0 0 9) = true then true else (if (outR p1 0 11) = true then true else (if (outR p2 0 11) = true then true else (if (outR p3 0 11) = true then true else (if (outR p5 (-12) 12) = true then true else false))))) = true then 1 else (if (q + 1) = 0 then 2 else (if n = 10 then 2 else 0)))), .ref 134], M, κ) Q := by
      refine w_putI i_99_98 hκ (⟨rfl, by decide⟩ : isOb 134 7) rfl (fun c => absurd c (by decide)) ?_
      refine w_load i_99_101 rfl rfl ?_
      refine w_getI (v := (nI (if (if (outR p0 0 9) = true then true else (if (outR p1 0 11) = true then true else (if (outR p2 0 11) = true then true else (if (outR p3 0 11) = true then true else (if (outR p5 (-12) 12) = true then true else false))))) = true then 1 else (if (q + 1) = 0 then 2 else (if n = 10 then 2 else 0))))) i_99_102 hκ (⟨rfl, by decide⟩ : isOb 134 7) rfl (stM_s) ?_
      refine w_if0n (0 < (nI (if (if (outR p0 0 9) = true then true else (if (outR p1 0 11) = true then true else (if (outR p2 0 11) = true then true else (if (outR p3 0 11) = true then true else (if (outR p5 (-12) 12) = true then true else false))))) = true then 1 else (if (q + 1) = 0 then 2 else (if n = 10 then 2 else 0))))) i_99_105 cI0_le ?_ ?_
      · intro h3
        refine w_push i_99_108 rfl ?_
        exact w_iret i_99_109 (.inl rfl) (k1 h3)
      · intro h4
        exact w_weak (lle_s (lle_s (lle_s (lle_s (lle_s (lle_s (lle_s (lle_u (lle_s lle_n))))))))) (k2 h4)
    refine w_if0n ((if (outR p0 0 9) = true then true else (if (outR p1 0 11) = true then true else (if (outR p2 0 11) = true then true else (if (outR p3 0 11) = true then true else (if (outR p5 (-12) 12) = true then true else false))))) = true) i_99_63 cB_eq ?_ ?_
    · intro h5
      refine w_push i_99_66 rfl ?_
      refine w_goto i_99_67 ?_
      exact (by first | exact (K2) | (have K9 := K2; simp only [↓if_pos h5] at K9 ⊢; exact (K9)))
    · intro h6
      refine w_load i_99_70 rfl rfl ?_
      refine w_getI (v := (nI (q + 1))) i_99_71 hκ (⟨rfl, by decide⟩ : isOb 134 7) rfl (hnb) ?_
      refine w_if0 ((q + 1) = 0) i_99_74 (cZ_eq (a := (q + 1)) (by omega) (by decide)) ?_ ?_
      · intro h7
        refine w_push i_99_93 rfl ?_
        refine w_goto i_99_94 ?_
        exact (by first | exact (K2) | (have K9 := K2; simp only [↓if_neg h6, ↓if_pos h7] at K9 ⊢; exact (K9)))
      · intro h8
        refine w_load i_99_77 rfl rfl ?_
        refine w_getR 139 i_99_78 hκ (⟨rfl, by decide⟩ : isOb 134 7) rfl rfl ?_
        refine w_load i_99_81 rfl rfl ?_
        refine w_getI (v := (nI (q + 1))) i_99_82 hκ (⟨rfl, by decide⟩ : isOb 134 7) rfl (hnb) ?_
        refine w_push i_99_85 rfl ?_
        refine w_bin (w := (nI q)) i_99_86 rfl (nI_pred q) ?_
        refine w_ialdN (e := q) (v := (nI n)) i_99_87 hκ (⟨rfl, rfl, by decide⟩ : isAr 139 6) (by omega) (by decide) (hc) ?_
        refine w_push i_99_88 rfl ?_
        refine w_if2n (n = 10) i_99_90 (cN_ne (a := n) (b := 10) (by omega) (by omega)) ?_ ?_
        · intro h9
          refine w_push i_99_93 rfl ?_
          refine w_goto i_99_94 ?_
          exact (by first | exact (K2) | (have K9 := K2; simp only [↓if_neg h6, ↓if_neg h8, ↓if_pos h9] at K9 ⊢; exact (K9)))
        · intro h10
          refine w_push i_99_97 rfl ?_
          exact (by first | exact (K2) | (have K9 := K2; simp only [↓if_neg h6, ↓if_neg h8, ↓if_neg h10] at K9 ⊢; exact (K9)))
  refine w_if0 ((outR p0 0 9) = true) i_99_7 cB_ne ?_ ?_
  · intro h11
    refine w_push i_99_53 rfl ?_
    refine w_goto i_99_54 ?_
    exact (by first | exact (K1) | (have K9 := K1; simp only [↓if_pos h11] at K9 ⊢; exact (K9)))
  · intro h12
    refine w_load i_99_10 rfl rfl ?_
    refine w_push i_99_11 rfl ?_
    refine w_push i_99_12 rfl ?_
    refine w_callS i_99_14 ⟨by decide, by decide, by decide, rfl, rfl⟩ (av := [.int p1, .int 0, .int 11]) (rest := []) rfl rfl (Nat.le_of_ble_eq_true rfl) (v := some (.int (bI (outR p1 0 11)))) (c95 hκ) ?_
    refine w_if0 ((outR p1 0 11) = true) i_99_17 cB_ne ?_ ?_
    · intro h13
      refine w_push i_99_53 rfl ?_
      refine w_goto i_99_54 ?_
      exact (by first | exact (K1) | (have K9 := K1; simp only [↓if_neg h12, ↓if_pos h13] at K9 ⊢; exact (K9)))
    · intro h14
      refine w_load i_99_20 rfl rfl ?_
      refine w_push i_99_21 rfl ?_
      refine w_push i_99_22 rfl ?_
      refine w_callS i_99_24 ⟨by decide, by decide, by decide, rfl, rfl⟩ (av := [.int p2, .int 0, .int 11]) (rest := []) rfl rfl (Nat.le_of_ble_eq_true rfl) (v := some (.int (bI (outR p2 0 11)))) (c95 hκ) ?_
      refine w_if0 ((outR p2 0 11) = true) i_99_27 cB_ne ?_ ?_
      · intro h15
        refine w_push i_99_53 rfl ?_
        refine w_goto i_99_54 ?_
        exact (by first | exact (K1) | (have K9 := K1; simp only [↓if_neg h12, ↓if_neg h14, ↓if_pos h15] at K9 ⊢; exact (K9)))
      · intro h16
        refine w_load i_99_30 rfl rfl ?_
        refine w_push i_99_32 rfl ?_
        refine w_push i_99_33 rfl ?_
        refine w_callS i_99_35 ⟨by decide, by decide, by decide, rfl, rfl⟩ (av := [.int p3, .int 0, .int 11]) (rest := []) rfl rfl (Nat.le_of_ble_eq_true rfl) (v := some (.int (bI (outR p3 0 11)))) (c95 hκ) ?_
        refine w_if0 ((outR p3 0 11) = true) i_99_38 cB_ne ?_ ?_
        · intro h17
          refine w_push i_99_53 rfl ?_
          refine w_goto i_99_54 ?_
          exact (by first | exact (K1) | (have K9 := K1; simp only [↓if_neg h12, ↓if_neg h14, ↓if_neg h16, ↓if_pos h17] at K9 ⊢; exact (K9)))
        · intro h18
          refine w_load i_99_41 rfl rfl ?_
          refine w_push i_99_43 rfl ?_
          refine w_push i_99_45 rfl ?_
          refine w_callS i_99_47 ⟨by decide, by decide, by decide, rfl, rfl⟩ (av := [.int p5, .int (-12), .int 12]) (rest := []) rfl rfl (Nat.le_of_ble_eq_true rfl) (v := some (.int (bI (outR p5 (-12) 12)))) (c95 hκ) ?_
          refine w_if0n ((outR p5 (-12) 12) = true) i_99_50 cB_eq ?_ ?_
          · intro h19
            refine w_push i_99_53 rfl ?_
            refine w_goto i_99_54 ?_
            exact (by first | exact (K1) | (have K9 := K1; simp only [↓if_neg h12, ↓if_neg h14, ↓if_neg h16, ↓if_neg h18, ↓if_pos h19] at K9 ⊢; exact (K9)))
          · intro h20
            refine w_push i_99_57 rfl ?_
            exact (by first | exact (K1) | (have K9 := K1; simp only [↓if_neg h12, ↓if_neg h14, ↓if_neg h16, ↓if_neg h18, ↓if_neg h20] at K9 ⊢; exact (K9)))
theorem T67_0 {Q : Ou → Prop} {M : Mem} {κ : Kp} (hκ : Rd κ) {q n : Nat} (hq : q < 6) (hn : n ≤ 10) (hnb : M 0 6 = nI (q + 1)) (hc : M (5 + 18 * q) 4 = nI n) {p0 : Int32} {p1 : Int32} {p2 : Int32} {p3 : Int32} {p4 : Int32} {p5 : Int32}
    (k1 : ((((inR 0 p0 9) = true) ∧ ((inR 0 p1 11) = true) ∧ ((inR 0 p2 11) = true) ∧ ((inR 0 p3 11) = true) ∧ (¬ ((inR (-12) p5 12) = true))) ∨ (((inR 0 p0 9) = true) ∧ ((inR 0 p1 11) = true) ∧ ((inR 0 p2 11) = true) ∧ (¬ ((inR 0 p3 11) = true))) ∨ (((inR 0 p0 9) = true) ∧ ((inR 0 p1 11) = true) ∧ (¬ ((inR 0 p2 11) = true))) ∨ (((inR 0 p0 9) = true) ∧ (¬ ((inR 0 p1 11) = true))) ∨ (¬ ((inR 0 p0 9) = true))) → Q (.inr 0, M, (κ.1, κ.2.1, κ.2.2.1, kN κ, kC κ + 1, kU κ + 6)))
    (k2 : (inR 0 p0 9) = true → (inR 0 p1 11) = true → (inR 0 p2 11) = true → (inR 0 p3 11) = true → (inR (-12) p5 12) = true → (((q + 1) < 1) ∨ ((¬ ((q + 1) < 1)) ∧ (¬ (n < 10)))) → Q (.inr 1, M, (κ.1, κ.2.1, κ.2.2.1, kN κ, kC κ + 1, kU κ + 6)))
    (k3 : (inR 0 p0 9) = true → (inR 0 p1 11) = true → (inR 0 p2 11) = true → (inR 0 p3 11) = true → (inR (-12) p5 12) = true → ¬ ((q + 1) < 1) → n < 10 → RT 2 (0, entL 2 [.ref (5 + 18 * q), .int p0, .int p1, .int p2, .int p3, .int p4, .int p5], [], M, κ) (fun o => ∃ v M1 κ1, o = (.inl v, M1, κ1) ∧ RT 67 (114, [.ref 0, .int p0, .int p1, .int p2, .int p3, .int p4, .int p5, .ref (5 + 18 * q)], v.toList ++ [], M1, κ1) Q))
    : RT 67 (0, [.ref 0, .int p0, .int p1, .int p2, .int p3, .int p4, .int p5, UU], [], M, κ) Q := by
  refine w_push i_67_0 rfl ?_
  refine w_load i_67_1 rfl rfl ?_
  refine w_push i_67_2 rfl ?_
  refine w_callS i_67_4 ⟨by decide, by decide, by decide, rfl, rfl⟩ (av := [.int 0, .int p0, .int 9]) (rest := []) rfl rfl (Nat.le_of_ble_eq_true rfl) (v := some (.int (bI (inR 0 p0 9)))) (c81 hκ) ?_
  have K1 : ((((inR 0 p0 9) = true) ∧ ((inR 0 p1 11) = true) ∧ ((inR 0 p2 11) = true) ∧ ((inR 0 p3 11) = true) ∧ (¬ ((inR (-12) p5 12) = true))) ∨ (((inR 0 p0 9) = true) ∧ ((inR 0 p1 11) = true) ∧ ((inR 0 p2 11) = true) ∧ (¬ ((inR 0 p3 11) = true))) ∨ (((inR 0 p0 9) = true) ∧ ((inR 0 p1 11) = true) ∧ (¬ ((inR 0 p2 11) = true))) ∨ (((inR 0 p0 9) = true) ∧ (¬ ((inR 0 p1 11) = true))) ∨ (¬ ((inR 0 p0 9) = true))) → RT 67 (44, [.ref 0, .int p0, .int p1, .int p2, .int p3, .int p4, .int p5, UU], [], M, κ) Q := by
    intro h2
    exact w_throw i_67_44 rfl hκ (by decide) rfl (Nat.le_of_ble_eq_true rfl) (k1 h2)
  refine w_if0n ((inR 0 p0 9) = true) i_67_7 cB_eq ?_ ?_
  · intro h3
    refine w_load i_67_10 rfl rfl ?_
    refine w_callS i_67_11 ⟨by decide, by decide, by decide, rfl, rfl⟩ (av := [.int p1]) (rest := []) rfl rfl (Nat.le_of_ble_eq_true rfl) (v := some (.int (bI (inR 0 p1 11)))) (c82 hκ) ?_
    refine w_if0n ((inR 0 p1 11) = true) i_67_14 cB_eq ?_ ?_
    · intro h4
      refine w_load i_67_17 rfl rfl ?_
      refine w_callS i_67_18 ⟨by decide, by decide, by decide, rfl, rfl⟩ (av := [.int p2]) (rest := []) rfl rfl (Nat.le_of_ble_eq_true rfl) (v := some (.int (bI (inR 0 p2 11)))) (c82 hκ) ?_
      refine w_if0n ((inR 0 p2 11) = true) i_67_21 cB_eq ?_ ?_
      · intro h5
        refine w_load i_67_24 rfl rfl ?_
        refine w_callS i_67_26 ⟨by decide, by decide, by decide, rfl, rfl⟩ (av := [.int p3]) (rest := []) rfl rfl (Nat.le_of_ble_eq_true rfl) (v := some (.int (bI (inR 0 p3 11)))) (c82 hκ) ?_
        refine w_if0n ((inR 0 p3 11) = true) i_67_29 cB_eq ?_ ?_
        · intro h6
          refine w_push i_67_32 rfl ?_
          refine w_load i_67_34 rfl rfl ?_
          refine w_push i_67_36 rfl ?_
          refine w_callS i_67_38 ⟨by decide, by decide, by decide, rfl, rfl⟩ (av := [.int (-12), .int p5, .int 12]) (rest := []) rfl rfl (Nat.le_of_ble_eq_true rfl) (v := some (.int (bI (inR (-12) p5 12)))) (c81 hκ) ?_
          refine w_if0 ((inR (-12) p5 12) = true) i_67_41 cB_ne ?_ ?_
          · intro h7
            refine w_load i_67_52 rfl rfl ?_
            refine w_getI (v := (nI (q + 1))) i_67_53 hκ (⟨rfl, by decide⟩ : isOb 0 6) rfl (hnb) ?_
            refine w_push i_67_56 rfl ?_
            have K8 : (((q + 1) < 1) ∨ ((¬ ((q + 1) < 1)) ∧ (¬ (n < 10)))) → RT 67 (79, [.ref 0, .int p0, .int p1, .int p2, .int p3, .int p4, .int p5, UU], [], M, κ) Q := by
              intro h9
              exact w_throw i_67_79 rfl hκ (by decide) rfl (Nat.le_of_ble_eq_true rfl) (k2 h3 h4 h5 h6 h7 h9)
            refine w_if2 ((q + 1) < 1) i_67_57 (cN_lt (a := (q + 1)) (b := 1) (by omega) (by omega)) ?_ ?_
            · intro h10
              exact (by first | exact (K8 (.inl h10)) | (have K9 := K8 (.inl h10); simp only [↓if_pos h10] at K9 ⊢; exact (K9)))
            · intro h11
              refine w_load i_67_60 rfl rfl ?_
              refine w_getR 2 i_67_61 hκ (⟨rfl, by decide⟩ : isOb 0 6) rfl rfl ?_
              refine w_load i_67_64 rfl rfl ?_
              refine w_getI (v := (nI (q + 1))) i_67_65 hκ (⟨rfl, by decide⟩ : isOb 0 6) rfl (hnb) ?_
              refine w_push i_67_68 rfl ?_
              refine w_bin (w := (nI q)) i_67_69 rfl (nI_pred q) ?_
              refine w_aaldN (e := q) (5 + 18 * q) i_67_70 hκ (⟨by decide, by decide⟩ : (kd 2 = 22 ∨ kd 2 = 23) ∧ 2 < 180) (by omega) rfl ?_
              refine w_getI (v := (nI n)) i_67_71 hκ (bl_ob (bl_g (by omega : q < 6))) rfl (hc) ?_
              refine w_push i_67_74 rfl ?_
              refine w_if2 (n < 10) i_67_76 (cN_lt (a := n) (b := 10) (by omega) (by omega)) ?_ ?_
              · intro h12
                refine w_load i_67_87 rfl rfl ?_
                refine w_getR 2 i_67_88 hκ (⟨rfl, by decide⟩ : isOb 0 6) rfl rfl ?_
                refine w_load i_67_91 rfl rfl ?_
                refine w_getI (v := (nI (q + 1))) i_67_92 hκ (⟨rfl, by decide⟩ : isOb 0 6) rfl (hnb) ?_
                refine w_push i_67_95 rfl ?_
                refine w_bin (w := (nI q)) i_67_96 rfl (nI_pred q) ?_
                refine w_aaldN (e := q) (5 + 18 * q) i_67_97 hκ (⟨by decide, by decide⟩ : (kd 2 = 22 ∨ kd 2 = 23) ∧ 2 < 180) (by omega) rfl ?_
                refine w_store (l1 := [.ref 0, .int p0, .int p1, .int p2, .int p3, .int p4, .int p5, .ref (5 + 18 * q)]) i_67_98 rfl (Nat.le_of_ble_eq_true rfl) rfl ?_
                refine w_load i_67_100 rfl rfl ?_
                refine w_load i_67_102 rfl rfl ?_
                refine w_load i_67_103 rfl rfl ?_
                refine w_load i_67_104 rfl rfl ?_
                refine w_load i_67_105 rfl rfl ?_
                refine w_load i_67_107 rfl rfl ?_
                refine w_load i_67_109 rfl rfl ?_
                exact w_callVI (i := _) i_67_111 ⟨by decide, by decide, by decide, rfl⟩ hκ (bl_ob (bl_g (by omega : q < 6))) (av := [.int p0, .int p1, .int p2, .int p3, .int p4, .int p5]) (rest := []) rfl rfl (Nat.le_of_ble_eq_true rfl) (k3 h3 h4 h5 h6 h7 h11 h12)
              · intro h13
                exact (by first | exact (K8 (.inr ⟨h11, h13⟩)) | (have K9 := K8 (.inr ⟨h11, h13⟩); simp only [↓if_neg h11, ↓if_neg h13] at K9 ⊢; exact (K9)))
          · intro h14
            exact (by first | exact (K1 (.inl ⟨h3, h4, h5, h6, h14⟩)) | (have K9 := K1 (.inl ⟨h3, h4, h5, h6, h14⟩); simp only [↓if_pos h3, ↓if_pos h4, ↓if_pos h5, ↓if_pos h6, ↓if_neg h14] at K9 ⊢; exact (K9)))
        · intro h15
          exact (by first | exact (K1 (.inr (.inl ⟨h3, h4, h5, h15⟩))) | (have K9 := K1 (.inr (.inl ⟨h3, h4, h5, h15⟩)); simp only [↓if_pos h3, ↓if_pos h4, ↓if_pos h5, ↓if_neg h15] at K9 ⊢; exact (K9)))
      · intro h16
        exact (by first | exact (K1 (.inr (.inr (.inl ⟨h3, h4, h16⟩)))) | (have K9 := K1 (.inr (.inr (.inl ⟨h3, h4, h16⟩))); simp only [↓if_pos h3, ↓if_pos h4, ↓if_neg h16] at K9 ⊢; exact (K9)))
    · intro h17
      exact (by first | exact (K1 (.inr (.inr (.inr (.inl ⟨h3, h17⟩))))) | (have K9 := K1 (.inr (.inr (.inr (.inl ⟨h3, h17⟩)))); simp only [↓if_pos h3, ↓if_neg h17] at K9 ⊢; exact (K9)))
  · intro h18
    exact (by first | exact (K1 (.inr (.inr (.inr (.inr h18))))) | (have K9 := K1 (.inr (.inr (.inr (.inr h18)))); simp only [↓if_neg h18] at K9 ⊢; exact (K9)))
variable {Q : Ou → Prop} {M M0 : Mem} {κ : Kp}
def okB (p0 p1 p2 p3 : Int32) : Bool := inR 0 p0 3 && (inR 0 p1 11 && (inR 0 p2 5 && inR 0 p3 5))
def okP (p0 p1 p2 p3 p5 : Int32) : Bool := inR 0 p0 9 && (inR 0 p1 11 && (inR 0 p2 11 && (inR 0 p3 11 && inR (-12) p5 12)))
def gB (g : Gs) (p0 p1 p2 p3 : Int32) : Gs := (gN g + 1, fun z => if z = gN g then p0 else gE g z, fun z => if z = gN g then p1 else gV g z, fun z => if z = gN g then p2.toInt.toNat else gT g z, fun z => if z = gN g then p3.toInt.toNat else gF g z, fun z => if z = gN g then 0 else gC g z, gO g)
def pick (p0 p1 p2 p3 p4 p5 : Int32) (f : Nat) : Int32 := if f = 0 then p0 else if f = 1 then p1 else if f = 2 then p2 else if f = 3 then p3 else if f = 4 then p4 else p5
def gP (g : Gs) (q : Nat) (p0 p1 p2 p3 p4 p5 : Int32) : Gs := (gN g, gE g, gV g, gT g, gF g, fun z => if z = q then gC g q + 1 else gC g z, fun z f j => if z = q ∧ j = gC g q then pick p0 p1 p2 p3 p4 p5 f else gO g z f j)
section TL
variable {g : Gs} {mp : Mp} {cf : Bool} {tu : Nat} {tr : Bool} {r : Rs} {M' : Mem} {p0 p1 p2 p3 p4 p5 : Int32}
theorem okB_rng (h : okB p0 p1 p2 p3 = true) : (0 ≤ p0.toInt ∧ p0.toInt ≤ 3) ∧ (0 ≤ p1.toInt ∧ p1.toInt ≤ 11) ∧ (0 ≤ p2.toInt ∧ p2.toInt ≤ 5) ∧ (0 ≤ p3.toInt ∧ p3.toInt ≤ 5) := by
  unfold okB at h
  simp only [Bool.and_eq_true, inR_iff] at h
  exact h
theorem okP_rng (h : okP p0 p1 p2 p3 p5 = true) : (0 ≤ p0.toInt ∧ p0.toInt ≤ 9) ∧ (0 ≤ p1.toInt ∧ p1.toInt ≤ 11) ∧ (0 ≤ p2.toInt ∧ p2.toInt ≤ 11) ∧ (0 ≤ p3.toInt ∧ p3.toInt ≤ 11) ∧ (-12 ≤ p5.toInt ∧ p5.toInt ≤ 12) := by
  unfold okP at h
  simp only [Bool.and_eq_true, inR_iff] at h
  exact h
theorem gB_ok (hg : GOk g) (hn : gN g < 6) (h : okB p0 p1 p2 p3 = true) : GOk (gB g p0 p1 p2 p3) := by
  obtain ⟨r0, r1, r2, r3⟩ := okB_rng h
  refine ⟨hn, fun z hz => ?_⟩
  show (if z = gN g then p2.toInt.toNat else gT g z) < 6 ∧ (if z = gN g then p3.toInt.toNat else gF g z) < 6 ∧ (if z = gN g then 0 else gC g z) ≤ 10 ∧ Ook (gO g z) (if z = gN g then 0 else gC g z) ∧ (0 ≤ (if z = gN g then p0 else gE g z).toInt ∧ (if z = gN g then p0 else gE g z).toInt ≤ 3) ∧ (0 ≤ (if z = gN g then p1 else gV g z).toInt ∧ (if z = gN g then p1 else gV g z).toInt ≤ 11)
  by_cases e : z = gN g
  · simp only [if_pos e]
    exact ⟨by omega, by omega, by omega, fun k hk => absurd hk (Nat.not_lt_zero k), r0, r1⟩
  · simp only [if_neg e]
    have hz' : z < gN g + 1 := hz
    exact hg.2 z (by omega)
theorem gP_ok (hg : GOk g) {q : Nat} (hq : q < gN g) (hc : gC g q < 10) (h : okP p0 p1 p2 p3 p5 = true) : GOk (gP g q p0 p1 p2 p3 p4 p5) := by
  obtain ⟨r0, r1, r2, r3, r5⟩ := okP_rng h
  refine ⟨hg.1, fun z hz => ?_⟩
  obtain ⟨a1, a2, a3, a4, a5, a6⟩ := hg.2 z hz
  refine ⟨a1, a2, ?_, ?_, a5, a6⟩
  · show (if z = q then gC g q + 1 else gC g z) ≤ 10
    split <;> omega
  · show Ook (fun f j => if z = q ∧ j = gC g q then pick p0 p1 p2 p3 p4 p5 f else gO g z f j) (if z = q then gC g q + 1 else gC g z)
    intro k hk
    by_cases e : z = q ∧ k = gC g q
    · simp only [if_pos e]
      exact ⟨r0, r1, r2, r3, r5⟩
    · simp only [if_neg e]
      refine a4 k ?_
      by_cases e2 : z = q
      · rw [if_pos e2] at hk
        rw [e2]
        have : ¬ k = gC g q := fun y => e ⟨e2, y⟩
        omega
      · rw [if_neg e2] at hk
        exact hk
theorem f66 (hκ : Rd κ) (hg : GOk g) (hI : CI g mp cf tu tr r M) (K0 : okB p0 p1 p2 p3 = false → Q (.inr 0, M, kT κ)) (K1 : okB p0 p1 p2 p3 = true → ¬ gN g < 6 → Q (.inr 1, M, kT κ)) (K2 : okB p0 p1 p2 p3 = true → gN g < 6 → ∀ M', (∀ x j, 134 ≤ x → M' x j = M x j) → (∀ z, z < 6 → ∀ x j, 19 + 18 * z ≤ x → x ≤ 22 + 18 * z → M' x j = M x j) → CI (gB g p0 p1 p2 p3) mp false tu tr r M' → Q (.inl (some (.int (nI (gN g + 1) - 1))), M', κ)) : RT 66 (0, entL 66 [.ref 0, .int p0, .int p1, .int p2, .int p3], [], M, κ) Q := by
  obtain ⟨o, o2, h1, h2, h3, h4, h5, h6', h7, h8, h9, ha, hb, hc⟩ := hI
  have or := oc_rng h1
  have hok : inR 0 p0 3 = true → inR 0 p1 11 = true → inR 0 p2 5 = true → inR 0 p3 5 = true → okB p0 p1 p2 p3 = true := fun a b c d => by
    unfold okB
    rw [a, b, c, d]
    rfl
  refine S66_0 hκ hg.1 h6'.1 (fun a => K0 ?_) (fun a b c d hlt => ?_) (fun a b c d hlt => K1 (hok a b c d) hlt)
  · revert a
    unfold okB
    cases inR 0 p0 3 <;> cases inR 0 p1 11 <;> cases inR 0 p2 5 <;> cases inR 0 p3 5 <;> decide
  · have hk := hok a b c d
    obtain ⟨r0, r1, r2, r3⟩ := okB_rng hk
    refine S1_0 hκ (bl_g hlt) ⟨_, _, _, rfl, ?_⟩
    have hf1 : ∀ x j, ¬ x = 5 + 18 * gN g → stM (stM (stM (stM (stM (stM M (5 + 18 * gN g) 0 p0) (5 + 18 * gN g) 1 p1) (5 + 18 * gN g) 2 p2) (5 + 18 * gN g) 3 p3) (5 + 18 * gN g) 4 0) (5 + 18 * gN g) 5 0 x j = M x j := fun x j e => (stM_o e).trans ((stM_o e).trans ((stM_o e).trans ((stM_o e).trans ((stM_o e).trans (stM_o e)))))
    have v0 : stM (stM (stM (stM (stM (stM M (5 + 18 * gN g) 0 p0) (5 + 18 * gN g) 1 p1) (5 + 18 * gN g) 2 p2) (5 + 18 * gN g) 3 p3) (5 + 18 * gN g) 4 0) (5 + 18 * gN g) 5 0 (5 + 18 * gN g) 0 = p0 := (stM_j (by decide)).trans ((stM_j (by decide)).trans ((stM_j (by decide)).trans ((stM_j (by decide)).trans ((stM_j (by decide)).trans stM_s))))
    have v1 : stM (stM (stM (stM (stM (stM M (5 + 18 * gN g) 0 p0) (5 + 18 * gN g) 1 p1) (5 + 18 * gN g) 2 p2) (5 + 18 * gN g) 3 p3) (5 + 18 * gN g) 4 0) (5 + 18 * gN g) 5 0 (5 + 18 * gN g) 1 = p1 := (stM_j (by decide)).trans ((stM_j (by decide)).trans ((stM_j (by decide)).trans ((stM_j (by decide)).trans stM_s)))
    have v2 : stM (stM (stM (stM (stM (stM M (5 + 18 * gN g) 0 p0) (5 + 18 * gN g) 1 p1) (5 + 18 * gN g) 2 p2) (5 + 18 * gN g) 3 p3) (5 + 18 * gN g) 4 0) (5 + 18 * gN g) 5 0 (5 + 18 * gN g) 2 = p2 := (stM_j (by decide)).trans ((stM_j (by decide)).trans ((stM_j (by decide)).trans stM_s))
    have v3 : stM (stM (stM (stM (stM (stM M (5 + 18 * gN g) 0 p0) (5 + 18 * gN g) 1 p1) (5 + 18 * gN g) 2 p2) (5 + 18 * gN g) 3 p3) (5 + 18 * gN g) 4 0) (5 + 18 * gN g) 5 0 (5 + 18 * gN g) 3 = p3 := (stM_j (by decide)).trans ((stM_j (by decide)).trans stM_s)
    have v4 : stM (stM (stM (stM (stM (stM M (5 + 18 * gN g) 0 p0) (5 + 18 * gN g) 1 p1) (5 + 18 * gN g) 2 p2) (5 + 18 * gN g) 3 p3) (5 + 18 * gN g) 4 0) (5 + 18 * gN g) 5 0 (5 + 18 * gN g) 4 = 0 := (stM_j (by decide)).trans stM_s
    generalize stM (stM (stM (stM (stM (stM M (5 + 18 * gN g) 0 p0) (5 + 18 * gN g) 1 p1) (5 + 18 * gN g) 2 p2) (5 + 18 * gN g) 3 p3) (5 + 18 * gN g) 4 0) (5 + 18 * gN g) 5 0 = M1 at hf1 v0 v1 v2 v3 v4
    refine S66_77 hκ hg.1 ((hf1 _ _ (by omega)).trans h6'.1) (K2 hk hlt _ ?_ ?_ ?_)
    · intro x j hx
      exact (stM_o (by omega)).trans ((stM_o (by omega)).trans (hf1 x j (by omega)))
    · intro z hz x j q1 q2
      exact (stM_o (by omega)).trans ((stM_o (by omega)).trans (hf1 x j (by omega)))
    · have hf : ∀ x j, ¬ x = 5 + 18 * gN g → ¬ (x = 0 ∧ (j = 6 ∨ j = 7)) → stM (stM M1 0 6 (nI (gN g + 1))) 0 7 0 x j = M x j := fun x j e1 e2 => by
        by_cases e : x = 0
        · rw [e]
          rw [e] at e1
          exact (stM_j (fun z => e2 ⟨e, .inr z⟩)).trans ((stM_j (fun z => e2 ⟨e, .inl z⟩)).trans (hf1 _ _ e1))
        · exact (stM_o e).trans ((stM_o e).trans (hf1 _ _ e1))
      have hg1 : ∀ x j, ¬ x = 0 → stM (stM M1 0 6 (nI (gN g + 1))) 0 7 0 x j = M1 x j := fun x j e => (stM_o e).trans (stM_o e)
      refine ⟨o, o2, h1, h2, h3, (hf _ _ (by omega) (by omega)).trans h4, (hf _ _ (by omega) (by omega)).trans h5, ⟨(stM_j (by decide)).trans stM_s, fun z hz => ?_⟩, CMp_eq (fun j => hf _ _ (by omega) (by omega)) h7, stM_s, RC_eq (fun x j hx => hf x j (by omega) (by omega)) h9, (hf _ _ (by omega) (by omega)).trans ha, (hf _ _ (by omega) (by omega)).trans hb, fun z => by cases z⟩
      have hz' : z < gN g + 1 := hz
      show _ = (if z = gN g then p0 else gE g z) ∧ _ = (if z = gN g then p1 else gV g z) ∧ _ = nI (if z = gN g then p2.toInt.toNat else gT g z) ∧ _ = nI (if z = gN g then p3.toInt.toNat else gF g z) ∧ _ = nI (if z = gN g then 0 else gC g z) ∧ ∀ q, q < 6 → ∀ j, j < (if z = gN g then 0 else gC g z) → _ = gO g z q j
      by_cases e : z = gN g
      · simp only [if_pos e]
        rw [e]
        exact ⟨(hg1 _ _ (by omega)).trans v0, (hg1 _ _ (by omega)).trans v1, (hg1 _ _ (by omega)).trans (v2.trans (nI_tn (by omega)).symm), (hg1 _ _ (by omega)).trans (v3.trans (nI_tn (by omega)).symm), (hg1 _ _ (by omega)).trans v4, fun q hq j hj => absurd hj (Nat.not_lt_zero j)⟩
      · simp only [if_neg e]
        obtain ⟨a0, a1, a2, a3, a4, a5⟩ := h6'.2 z (by omega)
        exact ⟨(hf _ _ (by omega) (by omega)).trans a0, (hf _ _ (by omega) (by omega)).trans a1, (hf _ _ (by omega) (by omega)).trans a2, (hf _ _ (by omega) (by omega)).trans a3, (hf _ _ (by omega) (by omega)).trans a4, fun q hq j hj => (hf _ _ (by omega) (by omega)).trans (a5 q hq j hj)⟩
theorem f98 (hκ : Rd κ) (hg : GOk g) (hI : MI g mp cf tu tr r M) (K0 : okB p0 p1 p2 p3 = false → ∀ M', (∀ x j, x < 134 → M' x j = M x j) → M' 134 0 = nI 1 → MI g mp cf tu tr r M' → Q (.inl (some (.int 0)), M', κ)) (K1 : okB p0 p1 p2 p3 = true → ¬ gN g < 6 → ∀ M', (∀ x j, x < 134 → M' x j = M x j) → M' 134 0 = nI 2 → MI g mp cf tu tr r M' → Q (.inl (some (.int 0)), M', κ)) (K2 : okB p0 p1 p2 p3 = true → gN g < 6 → ∀ M', (∀ x j, x < 134 → M' x j = M x j) → M' 134 0 = nI 0 → MI (gB g p0 p1 p2 p3) mp false tu tr r M' → Q (.inl (some (.int (nI (gN g + 1) - 1))), M', κ)) : RT 98 (0, entL 98 [.ref 134, .int p0, .int p1, .int p2, .int p3], [], M, κ) Q := by
  have eb : (if (outR p0 0 3) = true then true else (if (outR p1 0 11) = true then true else (if (outR p2 0 5) = true then true else (if (outR p3 0 5) = true then true else false)))) = !okB p0 p1 p2 p3 := by
    unfold okB
    rw [outR_inR, outR_inR, outR_inR, outR_inR]
    cases inR 0 p0 3 <;> cases inR 0 p1 11 <;> cases inR 0 p2 5 <;> cases inR 0 p3 5 <;> rfl
  have h6 := hg.1
  refine S98_0 hκ hg.1 hI.1.1 (fun a => ?_) (fun a => ?_)
  · rw [eb] at a ⊢
    cases hok : okB p0 p1 p2 p3 with
    | false => exact K0 hok _ (fun x j hx => stM_o (by omega)) stM_s (MI_th h6 hI)
    | true =>
      rw [hok] at a
      by_cases e : gN g = 6
      · refine K1 hok (by omega) _ (fun x j hx => stM_o (by omega)) (stM_s.trans ?_) (MI_th h6 hI)
        rw [if_neg (by decide), if_pos e]
      · rw [if_neg (by decide), if_neg e] at a
        exact absurd a (by decide)
  · rw [eb] at a ⊢
    cases hok : okB p0 p1 p2 p3 with
    | false =>
      rw [hok, if_pos (by decide)] at a
      exact absurd (by decide) a
    | true =>
      rw [hok] at a
      by_cases e : gN g = 6
      · rw [if_neg (by decide), if_pos e] at a
        exact absurd (by decide) a
      · obtain ⟨r0, r1, r2, r3⟩ := okB_rng hok
        rw [if_neg (by decide), if_neg e]
        have hI' := MI_th (w := nI 0) h6 hI
        have hz : stM M 134 0 (nI 0) 134 0 = nI 0 := stM_s
        have hl : ∀ x j, x < 134 → stM M 134 0 (nI 0) x j = M x j := fun x j hx => stM_o (by omega)
        generalize stM M 134 0 (nI 0) = M1 at hI' hz hl
        obtain ⟨h1, h2, h3, h4, h5⟩ := hI'
        refine S98_81 hκ (by omega) h1.1 ?_
        have hf : ∀ x j, (x < 135 ∨ 139 < x ∨ ¬ j = gN g) → ¬ (x = 134 ∧ (j = 7 ∨ j = 19)) → stM (stM (stM (stM (stM (stM (stM M1 135 (gN g) p0) 136 (gN g) p1) 137 (gN g) p2) 138 (gN g) p3) 139 (gN g) 0) 134 7 (nI (gN g + 1))) 134 19 0 x j = M1 x j := fun x j e1 e2 => by
          have s1 : ∀ {M : Mem} {k : Nat} {w : Int32}, 135 ≤ k → k ≤ 139 → stM M k (gN g) w x j = M x j := fun {M k w} k1 k2 => by
            by_cases ex : x = k
            · rw [ex]
              exact stM_j (by omega)
            · exact stM_o ex
          have s2 : ∀ {M : Mem} {k : Nat} {w : Int32}, k = 7 ∨ k = 19 → stM M 134 k w x j = M x j := fun {M k w} hk => by
            by_cases ex : x = 134
            · rw [ex]
              exact stM_j (fun z => e2 ⟨ex, by omega⟩)
            · exact stM_o ex
          exact (s2 (.inr rfl)).trans ((s2 (.inl rfl)).trans ((s1 (by omega) (by omega)).trans ((s1 (by omega) (by omega)).trans ((s1 (by omega) (by omega)).trans ((s1 (by omega) (by omega)).trans (s1 (by omega) (by omega)))))))
        refine K2 hok (by omega) _ (fun x j hx => (hf x j (by omega) (by omega)).trans (hl x j hx)) ((hf _ _ (by omega) (by omega)).trans hz) ⟨⟨(stM_j (by decide)).trans stM_s, fun z hz => ?_⟩, MMp_eq (fun j hj => (stM_j (by omega)).trans ((stM_j (by omega)).trans ((stM_o (by decide)).trans ((stM_o (by decide)).trans ((stM_o (by decide)).trans ((stM_o (by decide)).trans (stM_o (by decide)))))))) h2, stM_s, MEn_eq (fun j hj _ => (stM_j (by omega)).trans ((stM_j (by omega)).trans ((stM_o (by decide)).trans ((stM_o (by decide)).trans ((stM_o (by decide)).trans ((stM_o (by decide)).trans (stM_o (by decide)))))))) (fun x j hx => hf x j (by omega) (by omega)) h4, fun z => by cases z⟩
        have hz' : z < gN g + 1 := hz
        show _ = (if z = gN g then p0 else gE g z) ∧ _ = (if z = gN g then p1 else gV g z) ∧ _ = nI (if z = gN g then p2.toInt.toNat else gT g z) ∧ _ = nI (if z = gN g then p3.toInt.toNat else gF g z) ∧ _ = nI (if z = gN g then 0 else gC g z) ∧ ∀ q, q < 6 → ∀ j, j < (if z = gN g then 0 else gC g z) → _ = gO g z q j
        by_cases e3 : z = gN g
        · simp only [if_pos e3]
          rw [e3]
          refine ⟨(stM_o (by decide)).trans ((stM_o (by decide)).trans ((stM_o (by decide)).trans ((stM_o (by decide)).trans ((stM_o (by decide)).trans ((stM_o (by decide)).trans stM_s))))), (stM_o (by decide)).trans ((stM_o (by decide)).trans ((stM_o (by decide)).trans ((stM_o (by decide)).trans ((stM_o (by decide)).trans stM_s)))), (stM_o (by decide)).trans ((stM_o (by decide)).trans ((stM_o (by decide)).trans ((stM_o (by decide)).trans (stM_s.trans (nI_tn (by omega)).symm)))), (stM_o (by decide)).trans ((stM_o (by decide)).trans ((stM_o (by decide)).trans (stM_s.trans (nI_tn (by omega)).symm))), (stM_o (by decide)).trans ((stM_o (by decide)).trans stM_s), fun q hq j hj => absurd hj (Nat.not_lt_zero j)⟩
        · simp only [if_neg e3]
          obtain ⟨a0, a1, a2, a3, a4, a5⟩ := h1.2 z (by omega)
          exact ⟨(hf _ _ (by omega) (by omega)).trans a0, (hf _ _ (by omega) (by omega)).trans a1, (hf _ _ (by omega) (by omega)).trans a2, (hf _ _ (by omega) (by omega)).trans a3, (hf _ _ (by omega) (by omega)).trans a4, fun q hq j hj => (hf _ _ (by omega) (by omega)).trans (a5 q hq j hj)⟩
theorem f67 (hκ : Rd κ) (hg : GOk g) (hI : CI g mp cf tu tr r M) (K0 : okP p0 p1 p2 p3 p5 = false → Q (.inr 0, M, kT κ)) (K1 : okP p0 p1 p2 p3 p5 = true → gN g = 0 ∨ 10 ≤ gC g (gN g - 1) → Q (.inr 1, M, kT κ)) (K2 : okP p0 p1 p2 p3 p5 = true → ∀ q, gN g = q + 1 → gC g q < 10 → ∀ M', (∀ x j, 134 ≤ x → M' x j = M x j) → (∀ z, z < 6 → ∀ x j, 19 + 18 * z ≤ x → x ≤ 22 + 18 * z → M' x j = M x j) → CI (gP g q p0 p1 p2 p3 p4 p5) mp false tu tr r M' → Q (.inl (some (.int (nI (gC g q + 1) - 1))), M', κ)) : RT 67 (0, entL 67 [.ref 0, .int p0, .int p1, .int p2, .int p3, .int p4, .int p5], [], M, κ) Q := by
  obtain ⟨o, o2, h1, h2, h3, h4, h5, h6', h7, h8, h9, ha, hb, hc⟩ := hI
  have or := oc_rng h1
  have hok : inR 0 p0 9 = true → inR 0 p1 11 = true → inR 0 p2 11 = true → inR 0 p3 11 = true → inR (-12) p5 12 = true → okP p0 p1 p2 p3 p5 = true := fun a b c d e => by
    unfold okP
    rw [a, b, c, d, e]
    rfl
  have hno : ((((inR 0 p0 9) = true) ∧ ((inR 0 p1 11) = true) ∧ ((inR 0 p2 11) = true) ∧ ((inR 0 p3 11) = true) ∧ (¬ ((inR (-12) p5 12) = true))) ∨ (((inR 0 p0 9) = true) ∧ ((inR 0 p1 11) = true) ∧ ((inR 0 p2 11) = true) ∧ (¬ ((inR 0 p3 11) = true))) ∨ (((inR 0 p0 9) = true) ∧ ((inR 0 p1 11) = true) ∧ (¬ ((inR 0 p2 11) = true))) ∨ (((inR 0 p0 9) = true) ∧ (¬ ((inR 0 p1 11) = true))) ∨ (¬ ((inR 0 p0 9) = true))) → okP p0 p1 p2 p3 p5 = false := fun a => by
    revert a
    unfold okP
    cases inR 0 p0 9 <;> cases inR 0 p1 11 <;> cases inR 0 p2 11 <;> cases inR 0 p3 11 <;> cases inR (-12) p5 12 <;> decide
  cases hN : gN g with
  | zero =>
    have e0 := h6'.1
    rw [hN] at e0
    exact S67_0 hκ (Nat.zero_le 6) e0 (fun _ _ _ _ _ z => absurd (by decide) z) (fun a => K0 (hno a)) (fun a b c d e _ => K1 (hok a b c d e) (.inl hN)) (fun _ _ _ _ _ z => absurd (by decide) z)
  | succ q =>
    have e0 := h6'.1
    rw [hN] at e0
    have hg6 := hg.1
    have hq : q < gN g := by omega
    have hgq := hg.2 q hq
    obtain ⟨b0, b1, b2, b3, b4, b5⟩ := h6'.2 q hq
    refine T67_0 hκ (by omega) hgq.2.2.1 e0 b4 (fun a => K0 (hno a)) (fun a b c d e z => K1 (hok a b c d e) (.inr ?_)) (fun a b c d e _ hlt => ?_)
    · rw [hN, Nat.add_sub_cancel]
      omega
    · have hk := hok a b c d e
      refine f2 hκ (bl_g (by omega)) hlt b4 (fun M1 hf1 v4 v0' v1' v2' v3' v4' v5' => ⟨_, _, _, rfl, S67_114 hκ (by omega) ?_⟩)
      rw [v4]
      have hf : ∀ x j, ¬ (x = 0 ∧ j = 7) → ¬ (x = 5 + 18 * q ∧ j = 4) → ¬ (5 + 18 * q + 1 ≤ x ∧ x ≤ 5 + 18 * q + 6 ∧ j = gC g q) → stM M1 0 7 0 x j = M x j := fun x j e1 e2 e3 => by
        by_cases ex : x = 0
        · rw [ex]
          rw [ex] at e1 e2 e3
          exact (stM_j (fun z => e1 ⟨rfl, z⟩)).trans (hf1 _ _ e2 e3)
        · exact (stM_o ex).trans (hf1 _ _ e2 e3)
      refine K2 hk q hN hlt _ (fun x j hx => hf x j (by omega) (by omega) (by omega)) (fun z hz x j q1 q2 => hf x j (by omega) (by omega) (by omega)) ⟨o, o2, h1, h2, h3, (hf _ _ (by omega) (by omega) (by omega)).trans h4, (hf _ _ (by omega) (by omega) (by omega)).trans h5, ⟨(hf _ _ (by omega) (by omega) (by omega)).trans h6'.1, fun z hz => ?_⟩, CMp_eq (fun j => hf _ _ (by omega) (by omega) (by omega)) h7, stM_s, RC_eq (fun x j hx => hf x j (by omega) (by omega) (by omega)) h9, (hf _ _ (by omega) (by omega) (by omega)).trans ha, (hf _ _ (by omega) (by omega) (by omega)).trans hb, fun z => by cases z⟩
      have hz' : z < gN g := hz
      obtain ⟨a0, a1, a2, a3, a4, a5⟩ := h6'.2 z hz'
      refine ⟨(hf _ _ (by omega) (by omega) (by omega)).trans a0, (hf _ _ (by omega) (by omega) (by omega)).trans a1, (hf _ _ (by omega) (by omega) (by omega)).trans a2, (hf _ _ (by omega) (by omega) (by omega)).trans a3, ?_, ?_⟩
      · show _ = nI (if z = q then gC g q + 1 else gC g z)
        by_cases ez : z = q
        · rw [if_pos ez, ez]
          exact (stM_o (by omega)).trans v4
        · rw [if_neg ez]
          exact (hf _ _ (by omega) (by omega) (by omega)).trans a4
      · show ∀ f, f < 6 → ∀ j, j < (if z = q then gC g q + 1 else gC g z) → _ = (if z = q ∧ j = gC g q then pick p0 p1 p2 p3 p4 p5 f else gO g z f j)
        intro f hf6 j hj
        by_cases ez : z = q ∧ j = gC g q
        · rw [if_pos ez, ez.1, ez.2]
          refine (stM_o (by omega)).trans ?_
          revert f hf6
          exact six v0' v1' v2' v3' v4' v5'
        · rw [if_neg ez]
          have hj' : j < gC g z := by
            by_cases e2 : z = q
            · rw [if_pos e2] at hj
              rw [e2]
              have : ¬ j = gC g q := fun y => ez ⟨e2, y⟩
              omega
            · rw [if_neg e2] at hj
              exact hj
          by_cases e2 : z = q
          · have : ¬ j = gC g q := fun y => ez ⟨e2, y⟩
            exact (hf _ _ (by omega) (by omega) (by omega)).trans (a5 f hf6 j hj')
          · exact (hf _ _ (by omega) (by omega) (by omega)).trans (a5 f hf6 j hj')
theorem f99 (hκ : Rd κ) (hg : GOk g) (hI : MI g mp cf tu tr r M) (K0 : okP p0 p1 p2 p3 p5 = false → ∀ M', (∀ x j, x < 134 → M' x j = M x j) → M' 134 0 = nI 1 → MI g mp cf tu tr r M' → Q (.inl (some (.int 0)), M', κ)) (K1 : okP p0 p1 p2 p3 p5 = true → gN g = 0 ∨ 10 ≤ gC g (gN g - 1) → ∀ M', (∀ x j, x < 134 → M' x j = M x j) → M' 134 0 = nI 2 → MI g mp cf tu tr r M' → Q (.inl (some (.int 0)), M', κ)) (K2 : okP p0 p1 p2 p3 p5 = true → ∀ q, gN g = q + 1 → gC g q < 10 → ∀ M', (∀ x j, x < 134 → M' x j = M x j) → M' 134 0 = nI 0 → MI (gP g q p0 p1 p2 p3 p4 p5) mp false tu tr r M' → Q (.inl (some (.int (nI (gC g q + 1) - 1))), M', κ)) : RT 99 (0, entL 99 [.ref 134, .int p0, .int p1, .int p2, .int p3, .int p4, .int p5], [], M, κ) Q := by
  have eb : (if (outR p0 0 9) = true then true else (if (outR p1 0 11) = true then true else (if (outR p2 0 11) = true then true else (if (outR p3 0 11) = true then true else (if (outR p5 (-12) 12) = true then true else false))))) = !okP p0 p1 p2 p3 p5 := by
    unfold okP
    rw [outR_inR, outR_inR, outR_inR, outR_inR, outR_inR]
    cases inR 0 p0 9 <;> cases inR 0 p1 11 <;> cases inR 0 p2 11 <;> cases inR 0 p3 11 <;> cases inR (-12) p5 12 <;> rfl
  have h6 := hg.1
  cases hN : gN g with
  | zero =>
    have e0 := hI.1.1
    rw [hN] at e0
    refine S99_0 hκ (Nat.zero_le 6) e0 (fun _ z => absurd rfl z) (fun a => ?_) (fun a => ?_)
    · rw [eb, if_pos (rfl : (0 : Nat) = 0)] at a ⊢
      cases hok : okP p0 p1 p2 p3 p5 with
      | false => exact K0 hok _ (fun x j hx => stM_o (by omega)) stM_s (MI_th h6 hI)
      | true => exact K1 hok (.inl hN) _ (fun x j hx => stM_o (by omega)) stM_s (MI_th h6 hI)
    · rw [eb, if_pos (rfl : (0 : Nat) = 0)] at a
      cases hok : okP p0 p1 p2 p3 p5 with
      | false => rw [hok] at a; exact absurd (by decide) a
      | true => rw [hok] at a; exact absurd (by decide) a
  | succ q =>
    have e0 := hI.1.1
    rw [hN] at e0
    have hq : q < gN g := by omega
    have hgq := hg.2 q hq
    obtain ⟨b0, b1, b2, b3, b4, b5⟩ := hI.1.2 q hq
    refine T99_0 hκ (by omega) hgq.2.2.1 e0 b4 (fun a => ?_) (fun a => ?_)
    · rw [eb] at a ⊢
      cases hok : okP p0 p1 p2 p3 p5 with
      | false => exact K0 hok _ (fun x j hx => stM_o (by omega)) stM_s (MI_th h6 hI)
      | true =>
        rw [hok, if_neg (by decide), if_neg (Nat.succ_ne_zero q)] at a
        by_cases e : gC g q = 10
        · refine K1 hok (.inr ?_) _ (fun x j hx => stM_o (by omega)) (stM_s.trans ?_) (MI_th h6 hI)
          · rw [hN, Nat.add_sub_cancel]
            omega
          · rw [if_neg (by decide), if_neg (Nat.succ_ne_zero q), if_pos e]
        · rw [if_neg e] at a
          exact absurd a (by decide)
    · rw [eb] at a ⊢
      cases hok : okP p0 p1 p2 p3 p5 with
      | false =>
        rw [hok, if_pos (by decide)] at a
        exact absurd (by decide) a
      | true =>
        rw [hok, if_neg (by decide), if_neg (Nat.succ_ne_zero q)] at a
        by_cases e : gC g q = 10
        · rw [if_pos e] at a
          exact absurd (by decide) a
        · rw [if_neg (by decide), if_neg (Nat.succ_ne_zero q), if_neg e]
          have hI' := MI_th (w := nI 0) h6 hI
          have hz : stM M 134 0 (nI 0) 134 0 = nI 0 := stM_s
          have hl : ∀ x j, x < 134 → stM M 134 0 (nI 0) x j = M x j := fun x j hx => stM_o (by omega)
          have e1 : stM M 134 0 (nI 0) 134 7 = nI (q + 1) := (stM_j (by decide)).trans e0
          have e2 : stM M 134 0 (nI 0) 139 q = nI (gC g q) := (stM_o (by decide)).trans b4
          generalize stM M 134 0 (nI 0) = M1 at hI' hz hl e1 e2
          obtain ⟨h1, h2, h3, h4, h5⟩ := hI'
          refine S99_110 hκ (by omega) (by omega) e1 e2 ?_
          have hf : ∀ x j, ¬ (140 ≤ x ∧ x ≤ 145 ∧ j = 10 * q + gC g q) → ¬ (x = 139 ∧ j = q) → ¬ (x = 134 ∧ j = 19) → stM (stM (stM (stM (stM (stM (stM (stM M1 140 ((10 * q) + gC g q) p0) 141 ((10 * q) + gC g q) p1) 142 ((10 * q) + gC g q) p2) 143 ((10 * q) + gC g q) p3) 144 ((10 * q) + gC g q) p4) 145 ((10 * q) + gC g q) p5) 139 q (nI (gC g q + 1))) 134 19 0 x j = M1 x j := fun x j f1 f2 f3 => by
            have t1 : ∀ {M : Mem} {k i : Nat} {w : Int32}, ¬ (x = k ∧ j = i) → stM M k i w x j = M x j := fun {M k i w} h => by
              by_cases ex : x = k
              · rw [ex]
                exact stM_j (fun z => h ⟨ex, z⟩)
              · exact stM_o ex
            exact (t1 f3).trans ((t1 f2).trans ((t1 (by omega)).trans ((t1 (by omega)).trans ((t1 (by omega)).trans ((t1 (by omega)).trans ((t1 (by omega)).trans (t1 (by omega))))))))
          refine K2 hok q hN (by omega) _ (fun x j hx => (hf x j (by omega) (by omega) (by omega)).trans (hl x j hx)) ((hf _ _ (by omega) (by omega) (by omega)).trans hz) ⟨⟨(hf _ _ (by omega) (by omega) (by omega)).trans h1.1, fun z hz => ?_⟩, MMp_eq (fun j hj => hf _ _ (by omega) (by omega) (by omega)) h2, stM_s, MEn_eq (fun j hj _ => hf _ _ (by omega) (by omega) (by omega)) (fun x j hx => hf x j (by omega) (by omega) (by omega)) h4, fun z => by cases z⟩
          have hz' : z < gN g := hz
          have hgz := hg.2 z hz'
          obtain ⟨a0, a1, a2, a3, a4, a5⟩ := h1.2 z hz'
          refine ⟨(hf _ _ (by omega) (by omega) (by omega)).trans a0, (hf _ _ (by omega) (by omega) (by omega)).trans a1, (hf _ _ (by omega) (by omega) (by omega)).trans a2, (hf _ _ (by omega) (by omega) (by omega)).trans a3, ?_, ?_⟩
          · show _ = nI (if z = q then gC g q + 1 else gC g z)
            by_cases ez : z = q
            · rw [if_pos ez, ez]
              exact (stM_o (by decide)).trans stM_s
            · rw [if_neg ez]
              exact (hf _ _ (by omega) (by omega) (by omega)).trans a4
          · show ∀ f, f < 6 → ∀ j, j < (if z = q then gC g q + 1 else gC g z) → _ = (if z = q ∧ j = gC g q then pick p0 p1 p2 p3 p4 p5 f else gO g z f j)
            intro f hf6 j hj
            by_cases ez : z = q ∧ j = gC g q
            · rw [if_pos ez, ez.1, ez.2]
              revert f hf6
              exact six ((stM_o (by decide)).trans ((stM_o (by decide)).trans ((stM_o (by decide)).trans ((stM_o (by decide)).trans ((stM_o (by decide)).trans ((stM_o (by decide)).trans ((stM_o (by decide)).trans stM_s))))))) ((stM_o (by decide)).trans ((stM_o (by decide)).trans ((stM_o (by decide)).trans ((stM_o (by decide)).trans ((stM_o (by decide)).trans ((stM_o (by decide)).trans stM_s)))))) ((stM_o (by decide)).trans ((stM_o (by decide)).trans ((stM_o (by decide)).trans ((stM_o (by decide)).trans ((stM_o (by decide)).trans stM_s))))) ((stM_o (by decide)).trans ((stM_o (by decide)).trans ((stM_o (by decide)).trans ((stM_o (by decide)).trans stM_s)))) ((stM_o (by decide)).trans ((stM_o (by decide)).trans ((stM_o (by decide)).trans stM_s))) ((stM_o (by decide)).trans ((stM_o (by decide)).trans stM_s))
            · rw [if_neg ez]
              have hj' : j < gC g z := by
                by_cases e2 : z = q
                · rw [if_pos e2] at hj
                  rw [e2]
                  have : ¬ j = gC g q := fun y => ez ⟨e2, y⟩
                  omega
                · rw [if_neg e2] at hj
                  exact hj
              refine (hf _ _ (fun y => ?_) (by omega) (by omega)).trans (a5 f hf6 j hj')
              by_cases e2 : z = q
              · exact ez ⟨e2, by omega⟩
              · omega
end TL
end P_54_tell
